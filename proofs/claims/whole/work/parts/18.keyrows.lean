/-- the class's cells: ad 0 the object, 1 sets, 2 codes, 3 tape, 4 told, 5 the tape's words, 6 told's words, 7..9 the codes, 10+i the sets, 20+i their words -/
def kAt (K : Nat → ClassId) (w : hm_M) (ad : Nat → Nat) (F : Nat → Nat → Int32) (tf : Nat → Int32) (L P : Int) (df : Nat → Int32) : Prop :=
  w (ad 0) = some (.inr (5, [.ref (ad 1), .ref (ad 2), .ref (ad 3), .ref (ad 4)])) ∧
  (∃ fa : Nat → Option Nat, w (ad 1) = some (.inl (K 2, 8, .inr (.inr (.inr (.inr fa))))) ∧ ∀ i, i < 8 → fa i = some (ad (10 + i))) ∧
  (∃ fc : Nat → Option Nat, w (ad 2) = some (.inl (K 3, 3, .inr (.inr (.inr (.inr fc))))) ∧ fc 0 = some (ad 7) ∧ fc 1 = some (ad 8) ∧ fc 2 = some (ad 9)) ∧
  (w (ad 7) = some (.inr (4, [])) ∧ w (ad 8) = some (.inr (0, [])) ∧ w (ad 9) = some (.inr (2, []))) ∧
  tAt K w (ad 3) (ad 5) tf L P ∧ nAt K w (ad 4) (ad 6) df ∧ (∀ i, i < 8 → nAt K w (ad (10 + i)) (ad (20 + i)) (F i)) ∧
  (∀ i j, i < 8 → j < 8 → ad (20 + i) = ad (20 + j) → i = j) ∧ (∀ i, i < 8 → ad (20 + i) ≠ ad 6) ∧ 0 ≤ L ∧ L ≤ 8210
/-- outside the class's cells nothing changed -/
def kFr (ad : Nat → Nat) (w w2 : hm_M) : Prop := ∀ q, (∀ i, i < 28 → q ≠ ad i) → w2 q = w q
theorem kFr.rf {ad : Nat → Nat} {w : hm_M} : kFr ad w w := fun _ _ => rfl
theorem kFr.tr {ad : Nat → Nat} {w w2 w3 : hm_M} (h : kFr ad w w2) (h2 : kFr ad w2 w3) : kFr ad w w3 := fun q hq => (h2 q hq).trans (h q hq)
theorem kFr.up {ad : Nat → Nat} {w : hm_M} {e : va_E} (i : Nat) (hi : i < 28) : kFr ad w (hm_up w (ad i) e) := fun q hq => hm_un (hq i hi)
theorem kFr.tM {K : Nat → ClassId} {ad : Nat → Nat} {w : hm_M} {f : Nat → Int32} {L P : Int} : kFr ad w (tM K w (ad 3) (ad 5) f L P) := fun q hq => tM_other (hq 3 (by omega)) (hq 5 (by omega))
section KA
variable {K : Nat → ClassId} {w : hm_M} {ad : Nat → Nat} {F : Nat → Nat → Int32} {tf : Nat → Int32} {L P : Int} {df : Nat → Int32}
theorem kAt.o (h : kAt K w ad F tf L P df) : w (ad 0) = some (.inr (5, [.ref (ad 1), .ref (ad 2), .ref (ad 3), .ref (ad 4)])) := h.1
theorem kAt.t (h : kAt K w ad F tf L P df) : tAt K w (ad 3) (ad 5) tf L P := h.2.2.2.2.1
theorem kAt.d (h : kAt K w ad F tf L P df) : nAt K w (ad 4) (ad 6) df := h.2.2.2.2.2.1
theorem kAt.n (h : kAt K w ad F tf L P df) {i : Nat} (hi : i < 8) : nAt K w (ad (10 + i)) (ad (20 + i)) (F i) := h.2.2.2.2.2.2.1 i hi
theorem kAt.L0 (h : kAt K w ad F tf L P df) : 0 ≤ L := h.2.2.2.2.2.2.2.2.2.1
theorem kAt.L1 (h : kAt K w ad F tf L P df) : L ≤ 8210 := h.2.2.2.2.2.2.2.2.2.2
/-- another int row at the words of set x -/
theorem kAt.set (h : kAt K w ad F tf L P df) {x : Nat} (hx : x < 8) (f2 : Nat → Int32) : kAt K (hm_up w (ad (20 + x)) (.inl (K 0, 128, .inl f2))) ad (fun i => if i = x then f2 else F i) tf L P df := by
  obtain ⟨h0, ⟨fa, h1, h1'⟩, ⟨fc, h2, h2'⟩, ⟨h3, h4, h5⟩, h6, h7, h8, h9, h10, h11⟩ := h
  have hw := (h8 x hx).2
  have nr : ∀ {a : Nat} {o : Nat × List Value}, w a = some (.inr o) → a ≠ ad (20 + x) := fun ha e => by rw [e, hw] at ha; cases ha
  have na : ∀ {a n : Nat} {c : ClassId} {z}, w a = some (.inl (c, n, z)) → n ≠ 128 → a ≠ ad (20 + x) := fun ha hn e => by rw [e, hw] at ha; simp at ha; omega
  refine ⟨by rw [hm_un (nr h0)]; exact h0, ⟨fa, by rw [hm_un (na h1 (by omega))]; exact h1, h1'⟩, ⟨fc, by rw [hm_un (na h2 (by omega))]; exact h2, h2'⟩, ⟨by rw [hm_un (nr h3)]; exact h3, by rw [hm_un (nr h4)]; exact h4, by rw [hm_un (nr h5)]; exact h5⟩, ⟨by rw [hm_un (nr h6.1)]; exact h6.1, by rw [hm_un (na h6.2 (by omega))]; exact h6.2⟩, ⟨by rw [hm_un (nr h7.1)]; exact h7.1, by rw [hm_un (Ne.symm (h10 x hx))]; exact h7.2⟩, fun i hi => ?_, h9, h10, h11⟩
  by_cases hi2 : i = x
  · subst hi2
    exact ⟨by rw [hm_un (nr (h8 i hi).1)]; exact (h8 i hi).1, by rw [hm_us]; simp⟩
  · exact ⟨by rw [hm_un (nr (h8 i hi).1)]; exact (h8 i hi).1, by rw [hm_un (fun e => hi2 (h9 i x hi hx e))]; simp only [if_neg hi2]; exact (h8 i hi).2⟩
theorem kAt.told (h : kAt K w ad F tf L P df) (f2 : Nat → Int32) : kAt K (hm_up w (ad 6) (.inl (K 0, 128, .inl f2))) ad F tf L P f2 := by
  obtain ⟨h0, ⟨fa, h1, h1'⟩, ⟨fc, h2, h2'⟩, ⟨h3, h4, h5⟩, h6, h7, h8, h9, h10, h11⟩ := h
  have hw := h7.2
  have nr : ∀ {a : Nat} {o : Nat × List Value}, w a = some (.inr o) → a ≠ ad 6 := fun ha e => by rw [e, hw] at ha; cases ha
  have na : ∀ {a n : Nat} {c : ClassId} {z}, w a = some (.inl (c, n, z)) → n ≠ 128 → a ≠ ad 6 := fun ha hn e => by rw [e, hw] at ha; simp at ha; omega
  exact ⟨by rw [hm_un (nr h0)]; exact h0, ⟨fa, by rw [hm_un (na h1 (by omega))]; exact h1, h1'⟩, ⟨fc, by rw [hm_un (na h2 (by omega))]; exact h2, h2'⟩, ⟨by rw [hm_un (nr h3)]; exact h3, by rw [hm_un (nr h4)]; exact h4, by rw [hm_un (nr h5)]; exact h5⟩, ⟨by rw [hm_un (nr h6.1)]; exact h6.1, by rw [hm_un (na h6.2 (by omega))]; exact h6.2⟩, h7.up f2, fun i hi => ⟨by rw [hm_un (nr (h8 i hi).1)]; exact (h8 i hi).1, by rw [hm_un (h10 i hi)]; exact (h8 i hi).2⟩, h9, h10, h11⟩
/-- another tape -/
theorem kAt.tape (h : kAt K w ad F tf L P df) (f2 : Nat → Int32) {L2 P2 : Int} (hL0 : 0 ≤ L2) (hL1 : L2 ≤ 8210) : kAt K (tM K w (ad 3) (ad 5) f2 L2 P2) ad F f2 L2 P2 df := by
  obtain ⟨h0, ⟨fa, h1, h1'⟩, ⟨fc, h2, h2'⟩, ⟨h3, h4, h5⟩, h6, h7, h8, h9, h10, h11⟩ := h
  have ht := h6.1
  have hw := h6.2
  have nr : ∀ {a : Nat} {o : Nat × List Value}, w a = some (.inr o) → o.1 ≠ 3 → tM K w (ad 3) (ad 5) f2 L2 P2 a = w a := fun {a o} ha ho => tM_other (fun e => by rw [e, ht] at ha; simp at ha; rw [← ha] at ho; exact ho rfl) (fun e => by rw [e, hw] at ha; cases ha)
  have na : ∀ {a n : Nat} {c : ClassId} {z}, w a = some (.inl (c, n, z)) → n ≠ 257 → tM K w (ad 3) (ad 5) f2 L2 P2 a = w a := fun ha hn => tM_other (fun e => by rw [e, ht] at ha; cases ha) (fun e => by rw [e, hw] at ha; simp at ha; omega)
  exact ⟨by rw [nr h0 (by simp)]; exact h0, ⟨fa, by rw [na h1 (by omega)]; exact h1, h1'⟩, ⟨fc, by rw [na h2 (by omega)]; exact h2, h2'⟩, ⟨by rw [nr h3 (by decide)]; exact h3, by rw [nr h4 (by decide)]; exact h4, by rw [nr h5 (by decide)]; exact h5⟩, tAt_tM h6.ne, ⟨by rw [nr h7.1 (by simp)]; exact h7.1, by rw [na h7.2 (by omega)]; exact h7.2⟩, fun i hi => ⟨by rw [nr (h8 i hi).1 (by simp)]; exact (h8 i hi).1, by rw [na (h8 i hi).2 (by omega)]; exact (h8 i hi).2⟩, h9, h10, hL0, hL1⟩
end KA
set_option maxHeartbeats 4000000 in
set_option maxRecDepth 100000 in
theorem c6_has (l : Launch) (D : va_G) (K : Nat → ClassId) {w : hm_M} {ad : Nat → Nat} {F : Nat → Nat → Int32} {tf : Nat → Int32} {L P : Int} {df : Nat → Int32} (x v : Int) (hx : iB x) (hv : iB v) (hk : kAt K w ad F tf L P df)  : hm_Ci l D K yX6_has cX6_has 3 .int 2 [.ref (ad 0), .int (iI (x)), .int (iI (v))] w 0 0 (fun r w2 => r = iI (if 0 ≤ x ∧ x < 8 then (if 0 ≤ v ∧ v < 4096 then (if mem (F x.toNat) v.toNat then 1 else 0) else -3) else -2) ∧ w2 = w) := by
  refine hm_enterI (by decide) (Nat.le_of_ble_eq_true rfl) ?_
  intro p e s m args below meth c E hr hnm
  show hm_V p l e (hm_rm 2 0 0) s m args below meth c D (hm_A w s.heap.size) 3 0 0 (MQ below (hm_Qi D w s.heap.size (fun r w2 => r = iI (if 0 ≤ x ∧ x < 8 then (if 0 ≤ v ∧ v < 4096 then (if mem (F x.toNat) v.toNat then 1 else 0) else -3) else -2) ∧ w2 = w)) args s 0 0 (hm_A w s.heap.size)) w 0 [(0, .ref (ad 0)), (1, .int (iI (x))), (2, .int (iI (v)))] []
  refine hv_iload_n E dX6_has_0 rfl 1 rfl rfl ?_
  refine hv_callSI (na := 1) (As := [.int (iI (x))]) (st := []) E (c6_isSet l D K x hx) dX6_has_1 gL_X6_42 gS_X6_isSet gC_X6_isSet gZ_X6 (by decide +kernel) rfl ⟨Nat.le_of_ble_eq_true rfl, Nat.le_of_ble_eq_true rfl⟩ (Nat.le_of_ble_eq_true rfl) ⟨Nat.zero_le _, Nat.zero_le _⟩ rfl rfl (fun r w2 hp => ?_)
  rw [hp.1, hp.2]
  show hm_V p l e (hm_rm 2 0 0) s m args below meth c D (hm_A w s.heap.size) 3 0 0 (MQ below (hm_Qi D w s.heap.size (fun r w2 => r = iI (if 0 ≤ x ∧ x < 8 then (if 0 ≤ v ∧ v < 4096 then (if mem (F x.toNat) v.toNat then 1 else 0) else -3) else -2) ∧ w2 = w)) args s 0 0 (hm_A w s.heap.size)) w 4 [(0, .ref (ad 0)), (1, .int (iI (x))), (2, .int (iI (v)))] [.int (bI (decide (0 ≤ x ∧ x < 8)))]
  refine hv_if_neB E 10 dX6_has_4 (by decide) rfl (fun c1 => ?_) (fun c1 => ?_)
  · have c1 := of_decide_eq_true c1
    refine hv_iload_n E dX6_has_10 rfl 2 rfl rfl ?_
    refine hv_callSI (na := 1) (As := [.int (iI (v))]) (st := []) E (c6_isNumber l D K v hv) dX6_has_11 gL_X6_46 gS_X6_isNumber gC_X6_isNumber gZ_X6 (by decide +kernel) rfl ⟨Nat.le_of_ble_eq_true rfl, Nat.le_of_ble_eq_true rfl⟩ (Nat.le_of_ble_eq_true rfl) ⟨Nat.zero_le _, Nat.zero_le _⟩ rfl rfl (fun r w2 hp => ?_)
    rw [hp.1, hp.2]
    show hm_V p l e (hm_rm 2 0 0) s m args below meth c D (hm_A w s.heap.size) 3 0 0 (MQ below (hm_Qi D w s.heap.size (fun r w2 => r = iI (if 0 ≤ x ∧ x < 8 then (if 0 ≤ v ∧ v < 4096 then (if mem (F x.toNat) v.toNat then 1 else 0) else -3) else -2) ∧ w2 = w)) args s 0 0 (hm_A w s.heap.size)) w 14 [(0, .ref (ad 0)), (1, .int (iI (x))), (2, .int (iI (v)))] [.int (bI (decide (0 ≤ v ∧ v < 4096)))]
    refine hv_if_neB E 20 dX6_has_14 (by decide) rfl (fun c2 => ?_) (fun c2 => ?_)
    · have c2 := of_decide_eq_true c2
      refine hv_aload_n E dX6_has_20 rfl 0 rfl rfl ?_
      refine hv_get (kf := 0) E dX6_has_21 (show vwCl[5]? = some (RX6, TX6, 4) from rfl) (by decide) gW_X6 gF_X6_11 rfl hk.o rfl rfl ?_
      refine hv_iload_n E dX6_has_24 rfl 1 rfl rfl ?_
      obtain ⟨fa, hfa, hfb⟩ := hk.2.1
      refine hv_aaldN E dX6_has_25 hfa (by omega) (by omega) (by decide) (hfb (x).toNat (by omega)) rfl ?_
      refine hv_iload_n E dX6_has_26 rfl 2 rfl rfl ?_
      refine hv_callVI (na := 1) (As := [.int (iI (v))]) (st := []) E (c2_holds l D K v hv (hk.n (show (x).toNat < 8 by omega))) dX6_has_27 (hk.n (show (x).toNat < 8 by omega)).1 (show vwCl[1]? = some (RX2, TX2, 1) from rfl) gL_X6_49 gV_X2_holds gI_X2_holds gC_X2_holds gZ_X2 (by decide +kernel) rfl ⟨Nat.le_of_ble_eq_true rfl, Nat.le_of_ble_eq_true rfl⟩ (Nat.le_of_ble_eq_true rfl) ⟨Nat.zero_le _, Nat.zero_le _⟩ rfl rfl (fun r w2 hp => ?_)
      rw [hp.1, hp.2]
      show hm_V p l e (hm_rm 2 0 0) s m args below meth c D (hm_A w s.heap.size) 3 0 0 (MQ below (hm_Qi D w s.heap.size (fun r w2 => r = iI (if 0 ≤ x ∧ x < 8 then (if 0 ≤ v ∧ v < 4096 then (if mem (F x.toNat) v.toNat then 1 else 0) else -3) else -2) ∧ w2 = w)) args s 0 0 (hm_A w s.heap.size)) w 30 [(0, .ref (ad 0)), (1, .int (iI (x))), (2, .int (iI (v)))] [.int (bI (decide (0 ≤ v ∧ v < 4096) && mem (F x.toNat) v.toNat))]
      refine hv_if_eqB E 37 dX6_has_30 (by decide) rfl (fun c3 => ?_) (fun c3 => ?_)
      · refine hv_iconst E dX6_has_37 rfl ?_
        exact hv_iret E dX6_has_38 hr ⟨by
              have hh := c3
              rw [decide_eq_true (show 0 ≤ v ∧ v < 4096 by omega), Bool.true_and] at hh
              rw [if_pos (by omega), if_pos (by omega), hh]; rfl, rfl⟩
      · refine hv_iconst E dX6_has_33 rfl ?_
        refine hv_goto E 38 dX6_has_34 (by decide) ?_
        exact hv_iret E dX6_has_38 hr ⟨by
              have hh := c3
              rw [decide_eq_true (show 0 ≤ v ∧ v < 4096 by omega), Bool.true_and] at hh
              rw [if_pos (by omega), if_pos (by omega), hh]; rfl, rfl⟩
    · have c2 := of_decide_eq_false c2
      refine hv_bipush E dX6_has_17 (by decide +kernel) rfl ?_
      exact hv_iret E dX6_has_19 hr ⟨(by (repeat (first | rw [if_pos (by omega)] | rw [if_neg (by omega)])) <;> first | done | rfl), rfl⟩
  · have c1 := of_decide_eq_false c1
    refine hv_bipush E dX6_has_7 (by decide +kernel) rfl ?_
    exact hv_iret E dX6_has_9 hr ⟨(by (repeat (first | rw [if_pos (by omega)] | rw [if_neg (by omega)])) <;> first | done | rfl), rfl⟩
set_option maxHeartbeats 4000000 in
set_option maxRecDepth 100000 in
theorem c6_count (l : Launch) (D : va_G) (K : Nat → ClassId) {w : hm_M} {ad : Nat → Nat} {F : Nat → Nat → Int32} {tf : Nat → Int32} {L P : Int} {df : Nat → Int32} (x : Int) (hx : iB x) (hk : kAt K w ad F tf L P df)  : hm_Ci l D K yX6_count cX6_count 2 .int 3 [.ref (ad 0), .int (iI (x))] w 0 0 (fun r w2 => r = iI (if 0 ≤ x ∧ x < 8 then (ct (mem (F x.toNat)) 0 4096 : Nat) else -2) ∧ w2 = w) := by
  refine hm_enterI (by decide) (Nat.le_of_ble_eq_true rfl) ?_
  intro p e s m args below meth c E hr hnm
  show hm_V p l e (hm_rm 3 0 0) s m args below meth c D (hm_A w s.heap.size) 2 0 0 (MQ below (hm_Qi D w s.heap.size (fun r w2 => r = iI (if 0 ≤ x ∧ x < 8 then (ct (mem (F x.toNat)) 0 4096 : Nat) else -2) ∧ w2 = w)) args s 0 0 (hm_A w s.heap.size)) w 0 [(0, .ref (ad 0)), (1, .int (iI (x)))] []
  refine hv_iload_n E dX6_count_0 rfl 1 rfl rfl ?_
  refine hv_callSI (na := 1) (As := [.int (iI (x))]) (st := []) E (c6_isSet l D K x hx) dX6_count_1 gL_X6_42 gS_X6_isSet gC_X6_isSet gZ_X6 (by decide +kernel) rfl ⟨Nat.le_of_ble_eq_true rfl, Nat.le_of_ble_eq_true rfl⟩ (Nat.le_of_ble_eq_true rfl) ⟨Nat.zero_le _, Nat.zero_le _⟩ rfl rfl (fun r w2 hp => ?_)
  rw [hp.1, hp.2]
  show hm_V p l e (hm_rm 3 0 0) s m args below meth c D (hm_A w s.heap.size) 2 0 0 (MQ below (hm_Qi D w s.heap.size (fun r w2 => r = iI (if 0 ≤ x ∧ x < 8 then (ct (mem (F x.toNat)) 0 4096 : Nat) else -2) ∧ w2 = w)) args s 0 0 (hm_A w s.heap.size)) w 4 [(0, .ref (ad 0)), (1, .int (iI (x)))] [.int (bI (decide (0 ≤ x ∧ x < 8)))]
  refine hv_if_neB E 10 dX6_count_4 (by decide) rfl (fun c1 => ?_) (fun c1 => ?_)
  · have c1 := of_decide_eq_true c1
    refine hv_aload_n E dX6_count_10 rfl 0 rfl rfl ?_
    refine hv_get (kf := 0) E dX6_count_11 (show vwCl[5]? = some (RX6, TX6, 4) from rfl) (by decide) gW_X6 gF_X6_11 rfl hk.o rfl rfl ?_
    refine hv_iload_n E dX6_count_14 rfl 1 rfl rfl ?_
    obtain ⟨fa, hfa, hfb⟩ := hk.2.1
    refine hv_aaldN E dX6_count_15 hfa (by omega) (by omega) (by decide) (hfb (x).toNat (by omega)) rfl ?_
    refine hv_callVI (na := 0) (As := []) (st := []) E (c2_amount l D K (hk.n (show (x).toNat < 8 by omega))) dX6_count_16 (hk.n (show (x).toNat < 8 by omega)).1 (show vwCl[1]? = some (RX2, TX2, 1) from rfl) gL_X6_75 gV_X2_amount gI_X2_amount gC_X2_amount gZ_X2 (by decide +kernel) rfl ⟨Nat.le_of_ble_eq_true rfl, Nat.le_of_ble_eq_true rfl⟩ (Nat.le_of_ble_eq_true rfl) ⟨Nat.zero_le _, Nat.zero_le _⟩ rfl rfl (fun r w2 hp => ?_)
    rw [hp.1, hp.2]
    show hm_V p l e (hm_rm 3 0 0) s m args below meth c D (hm_A w s.heap.size) 2 0 0 (MQ below (hm_Qi D w s.heap.size (fun r w2 => r = iI (if 0 ≤ x ∧ x < 8 then (ct (mem (F x.toNat)) 0 4096 : Nat) else -2) ∧ w2 = w)) args s 0 0 (hm_A w s.heap.size)) w 19 [(0, .ref (ad 0)), (1, .int (iI (x)))] [.int (iI ((ct (mem (F x.toNat)) 0 4096 : Nat)))]
    exact hv_iret E dX6_count_19 hr ⟨(by (repeat (first | rw [if_pos (by omega)] | rw [if_neg (by omega)])) <;> first | done | rfl), rfl⟩
  · have c1 := of_decide_eq_false c1
    refine hv_bipush E dX6_count_7 (by decide +kernel) rfl ?_
    exact hv_iret E dX6_count_9 hr ⟨(by (repeat (first | rw [if_pos (by omega)] | rw [if_neg (by omega)])) <;> first | done | rfl), rfl⟩
set_option maxHeartbeats 4000000 in
set_option maxRecDepth 100000 in
theorem c6_rank (l : Launch) (D : va_G) (K : Nat → ClassId) {w : hm_M} {ad : Nat → Nat} {F : Nat → Nat → Int32} {tf : Nat → Int32} {L P : Int} {df : Nat → Int32} (x v : Int) (hx : iB x) (hv : iB v) (hk : kAt K w ad F tf L P df)  : hm_Ci l D K yX6_rank cX6_rank 3 .int 3 [.ref (ad 0), .int (iI (x)), .int (iI (v))] w 0 0 (fun r w2 => r = iI (if 0 ≤ x ∧ x < 8 then (if 0 ≤ v ∧ v ≤ 4096 then (ct (mem (F x.toNat)) 0 v.toNat : Nat) else -3) else -2) ∧ w2 = w) := by
  refine hm_enterI (by decide) (Nat.le_of_ble_eq_true rfl) ?_
  intro p e s m args below meth c E hr hnm
  show hm_V p l e (hm_rm 3 0 0) s m args below meth c D (hm_A w s.heap.size) 3 0 0 (MQ below (hm_Qi D w s.heap.size (fun r w2 => r = iI (if 0 ≤ x ∧ x < 8 then (if 0 ≤ v ∧ v ≤ 4096 then (ct (mem (F x.toNat)) 0 v.toNat : Nat) else -3) else -2) ∧ w2 = w)) args s 0 0 (hm_A w s.heap.size)) w 0 [(0, .ref (ad 0)), (1, .int (iI (x))), (2, .int (iI (v)))] []
  refine hv_iload_n E dX6_rank_0 rfl 1 rfl rfl ?_
  refine hv_callSI (na := 1) (As := [.int (iI (x))]) (st := []) E (c6_isSet l D K x hx) dX6_rank_1 gL_X6_42 gS_X6_isSet gC_X6_isSet gZ_X6 (by decide +kernel) rfl ⟨Nat.le_of_ble_eq_true rfl, Nat.le_of_ble_eq_true rfl⟩ (Nat.le_of_ble_eq_true rfl) ⟨Nat.zero_le _, Nat.zero_le _⟩ rfl rfl (fun r w2 hp => ?_)
  rw [hp.1, hp.2]
  show hm_V p l e (hm_rm 3 0 0) s m args below meth c D (hm_A w s.heap.size) 3 0 0 (MQ below (hm_Qi D w s.heap.size (fun r w2 => r = iI (if 0 ≤ x ∧ x < 8 then (if 0 ≤ v ∧ v ≤ 4096 then (ct (mem (F x.toNat)) 0 v.toNat : Nat) else -3) else -2) ∧ w2 = w)) args s 0 0 (hm_A w s.heap.size)) w 4 [(0, .ref (ad 0)), (1, .int (iI (x))), (2, .int (iI (v)))] [.int (bI (decide (0 ≤ x ∧ x < 8)))]
  refine hv_if_neB E 10 dX6_rank_4 (by decide) rfl (fun c1 => ?_) (fun c1 => ?_)
  · have c1 := of_decide_eq_true c1
    refine hv_iload_n E dX6_rank_10 rfl 2 rfl rfl ?_
    refine hv_callSI (na := 1) (As := [.int (iI (v))]) (st := []) E (c6_isBorder l D K v hv) dX6_rank_11 gL_X6_79 gS_X6_isBorder gC_X6_isBorder gZ_X6 (by decide +kernel) rfl ⟨Nat.le_of_ble_eq_true rfl, Nat.le_of_ble_eq_true rfl⟩ (Nat.le_of_ble_eq_true rfl) ⟨Nat.zero_le _, Nat.zero_le _⟩ rfl rfl (fun r w2 hp => ?_)
    rw [hp.1, hp.2]
    show hm_V p l e (hm_rm 3 0 0) s m args below meth c D (hm_A w s.heap.size) 3 0 0 (MQ below (hm_Qi D w s.heap.size (fun r w2 => r = iI (if 0 ≤ x ∧ x < 8 then (if 0 ≤ v ∧ v ≤ 4096 then (ct (mem (F x.toNat)) 0 v.toNat : Nat) else -3) else -2) ∧ w2 = w)) args s 0 0 (hm_A w s.heap.size)) w 14 [(0, .ref (ad 0)), (1, .int (iI (x))), (2, .int (iI (v)))] [.int (bI (decide (0 ≤ v ∧ v ≤ 4096)))]
    refine hv_if_neB E 20 dX6_rank_14 (by decide) rfl (fun c2 => ?_) (fun c2 => ?_)
    · have c2 := of_decide_eq_true c2
      refine hv_aload_n E dX6_rank_20 rfl 0 rfl rfl ?_
      refine hv_get (kf := 0) E dX6_rank_21 (show vwCl[5]? = some (RX6, TX6, 4) from rfl) (by decide) gW_X6 gF_X6_11 rfl hk.o rfl rfl ?_
      refine hv_iload_n E dX6_rank_24 rfl 1 rfl rfl ?_
      obtain ⟨fa, hfa, hfb⟩ := hk.2.1
      refine hv_aaldN E dX6_rank_25 hfa (by omega) (by omega) (by decide) (hfb (x).toNat (by omega)) rfl ?_
      refine hv_iload_n E dX6_rank_26 rfl 2 rfl rfl ?_
      refine hv_callVI (na := 1) (As := [.int (iI (v))]) (st := []) E (c2_amountBelow l D K v (by omega) (by omega) (hk.n (show (x).toNat < 8 by omega))) dX6_rank_27 (hk.n (show (x).toNat < 8 by omega)).1 (show vwCl[1]? = some (RX2, TX2, 1) from rfl) gL_X6_82 gV_X2_amountBelow gI_X2_amountBelow gC_X2_amountBelow gZ_X2 (by decide +kernel) rfl ⟨Nat.le_of_ble_eq_true rfl, Nat.le_of_ble_eq_true rfl⟩ (Nat.le_of_ble_eq_true rfl) ⟨Nat.zero_le _, Nat.zero_le _⟩ rfl rfl (fun r w2 hp => ?_)
      rw [hp.1, hp.2]
      show hm_V p l e (hm_rm 3 0 0) s m args below meth c D (hm_A w s.heap.size) 3 0 0 (MQ below (hm_Qi D w s.heap.size (fun r w2 => r = iI (if 0 ≤ x ∧ x < 8 then (if 0 ≤ v ∧ v ≤ 4096 then (ct (mem (F x.toNat)) 0 v.toNat : Nat) else -3) else -2) ∧ w2 = w)) args s 0 0 (hm_A w s.heap.size)) w 30 [(0, .ref (ad 0)), (1, .int (iI (x))), (2, .int (iI (v)))] [.int (iI ((ct (mem (F x.toNat)) 0 v.toNat : Nat)))]
      exact hv_iret E dX6_rank_30 hr ⟨(by (repeat (first | rw [if_pos (by omega)] | rw [if_neg (by omega)])) <;> first | done | rfl), rfl⟩
    · have c2 := of_decide_eq_false c2
      refine hv_bipush E dX6_rank_17 (by decide +kernel) rfl ?_
      exact hv_iret E dX6_rank_19 hr ⟨(by (repeat (first | rw [if_pos (by omega)] | rw [if_neg (by omega)])) <;> first | done | rfl), rfl⟩
  · have c1 := of_decide_eq_false c1
    refine hv_bipush E dX6_rank_7 (by decide +kernel) rfl ?_
    exact hv_iret E dX6_rank_9 hr ⟨(by (repeat (first | rw [if_pos (by omega)] | rw [if_neg (by omega)])) <;> first | done | rfl), rfl⟩
set_option maxHeartbeats 4000000 in
set_option maxRecDepth 100000 in
theorem c6_select (l : Launch) (D : va_G) (K : Nat → ClassId) {w : hm_M} {ad : Nat → Nat} {F : Nat → Nat → Int32} {tf : Nat → Int32} {L P : Int} {df : Nat → Int32} (x n : Int) (hx : iB x) (hb : iB n) (hk : kAt K w ad F tf L P df)  : hm_Ci l D K yX6_select cX6_select 3 .int 3 [.ref (ad 0), .int (iI (x)), .int (iI (n))] w 0 0 (fun r w2 => (∃ z : Int, (0 ≤ x ∧ x < 8 → isNth (mem (F x.toNat)) 4096 n z) ∧ (¬ (0 ≤ x ∧ x < 8) → z = -2) ∧ r = iI z) ∧ w2 = w) := by
  refine hm_enterI (by decide) (Nat.le_of_ble_eq_true rfl) ?_
  intro p e s m args below meth c E hr hnm
  show hm_V p l e (hm_rm 3 0 0) s m args below meth c D (hm_A w s.heap.size) 3 0 0 (MQ below (hm_Qi D w s.heap.size (fun r w2 => (∃ z : Int, (0 ≤ x ∧ x < 8 → isNth (mem (F x.toNat)) 4096 n z) ∧ (¬ (0 ≤ x ∧ x < 8) → z = -2) ∧ r = iI z) ∧ w2 = w)) args s 0 0 (hm_A w s.heap.size)) w 0 [(0, .ref (ad 0)), (1, .int (iI (x))), (2, .int (iI (n)))] []
  refine hv_iload_n E dX6_select_0 rfl 1 rfl rfl ?_
  refine hv_callSI (na := 1) (As := [.int (iI (x))]) (st := []) E (c6_isSet l D K x hx) dX6_select_1 gL_X6_42 gS_X6_isSet gC_X6_isSet gZ_X6 (by decide +kernel) rfl ⟨Nat.le_of_ble_eq_true rfl, Nat.le_of_ble_eq_true rfl⟩ (Nat.le_of_ble_eq_true rfl) ⟨Nat.zero_le _, Nat.zero_le _⟩ rfl rfl (fun r w2 hp => ?_)
  rw [hp.1, hp.2]
  show hm_V p l e (hm_rm 3 0 0) s m args below meth c D (hm_A w s.heap.size) 3 0 0 (MQ below (hm_Qi D w s.heap.size (fun r w2 => (∃ z : Int, (0 ≤ x ∧ x < 8 → isNth (mem (F x.toNat)) 4096 n z) ∧ (¬ (0 ≤ x ∧ x < 8) → z = -2) ∧ r = iI z) ∧ w2 = w)) args s 0 0 (hm_A w s.heap.size)) w 4 [(0, .ref (ad 0)), (1, .int (iI (x))), (2, .int (iI (n)))] [.int (bI (decide (0 ≤ x ∧ x < 8)))]
  refine hv_if_neB E 10 dX6_select_4 (by decide) rfl (fun c1 => ?_) (fun c1 => ?_)
  · have c1 := of_decide_eq_true c1
    refine hv_aload_n E dX6_select_10 rfl 0 rfl rfl ?_
    refine hv_get (kf := 0) E dX6_select_11 (show vwCl[5]? = some (RX6, TX6, 4) from rfl) (by decide) gW_X6 gF_X6_11 rfl hk.o rfl rfl ?_
    refine hv_iload_n E dX6_select_14 rfl 1 rfl rfl ?_
    obtain ⟨fa, hfa, hfb⟩ := hk.2.1
    refine hv_aaldN E dX6_select_15 hfa (by omega) (by omega) (by decide) (hfb (x).toNat (by omega)) rfl ?_
    refine hv_iload_n E dX6_select_16 rfl 2 rfl rfl ?_
    refine hv_callVI (na := 1) (As := [.int (iI (n))]) (st := []) E (c2_nth l D K n hb (hk.n (show (x).toNat < 8 by omega))) dX6_select_17 (hk.n (show (x).toNat < 8 by omega)).1 (show vwCl[1]? = some (RX2, TX2, 1) from rfl) gL_X6_86 gV_X2_nth gI_X2_nth gC_X2_nth gZ_X2 (by decide +kernel) rfl ⟨Nat.le_of_ble_eq_true rfl, Nat.le_of_ble_eq_true rfl⟩ (Nat.le_of_ble_eq_true rfl) ⟨Nat.zero_le _, Nat.zero_le _⟩ rfl rfl (fun r w2 hp => ?_)
    obtain ⟨⟨z, p1, p2⟩, p3⟩ := hp
    rw [p2, p3]
    show hm_V p l e (hm_rm 3 0 0) s m args below meth c D (hm_A w s.heap.size) 3 0 0 (MQ below (hm_Qi D w s.heap.size (fun r w2 => (∃ z : Int, (0 ≤ x ∧ x < 8 → isNth (mem (F x.toNat)) 4096 n z) ∧ (¬ (0 ≤ x ∧ x < 8) → z = -2) ∧ r = iI z) ∧ w2 = w)) args s 0 0 (hm_A w s.heap.size)) w 20 [(0, .ref (ad 0)), (1, .int (iI (x))), (2, .int (iI (n)))] [.int (iI (z))]
    exact hv_iret E dX6_select_20 hr ⟨⟨z, fun _ => p1, fun h => absurd h (by omega), rfl⟩, rfl⟩
  · have c1 := of_decide_eq_false c1
    refine hv_bipush E dX6_select_7 (by decide +kernel) rfl ?_
    exact hv_iret E dX6_select_9 hr ⟨⟨-2, fun h => absurd h (by omega), fun _ => rfl, rfl⟩, rfl⟩
set_option maxHeartbeats 4000000 in
set_option maxRecDepth 100000 in
theorem c6_next (l : Launch) (D : va_G) (K : Nat → ClassId) {w : hm_M} {ad : Nat → Nat} {F : Nat → Nat → Int32} {tf : Nat → Int32} {L P : Int} {df : Nat → Int32} (x v : Int) (hx : iB x) (hv : iB v) (hk : kAt K w ad F tf L P df)  : hm_Ci l D K yX6_next cX6_next 3 .int 3 [.ref (ad 0), .int (iI (x)), .int (iI (v))] w 0 0 (fun r w2 => (∃ z : Int, ((0 ≤ x ∧ x < 8) → (0 ≤ v ∧ v ≤ 4096) → isNext (mem (F x.toNat)) 4096 v z) ∧ (¬ (0 ≤ x ∧ x < 8) → z = -2) ∧ ((0 ≤ x ∧ x < 8) → ¬ (0 ≤ v ∧ v ≤ 4096) → z = -3) ∧ r = iI z) ∧ w2 = w) := by
  refine hm_enterI (by decide) (Nat.le_of_ble_eq_true rfl) ?_
  intro p e s m args below meth c E hr hnm
  show hm_V p l e (hm_rm 3 0 0) s m args below meth c D (hm_A w s.heap.size) 3 0 0 (MQ below (hm_Qi D w s.heap.size (fun r w2 => (∃ z : Int, ((0 ≤ x ∧ x < 8) → (0 ≤ v ∧ v ≤ 4096) → isNext (mem (F x.toNat)) 4096 v z) ∧ (¬ (0 ≤ x ∧ x < 8) → z = -2) ∧ ((0 ≤ x ∧ x < 8) → ¬ (0 ≤ v ∧ v ≤ 4096) → z = -3) ∧ r = iI z) ∧ w2 = w)) args s 0 0 (hm_A w s.heap.size)) w 0 [(0, .ref (ad 0)), (1, .int (iI (x))), (2, .int (iI (v)))] []
  refine hv_iload_n E dX6_next_0 rfl 1 rfl rfl ?_
  refine hv_callSI (na := 1) (As := [.int (iI (x))]) (st := []) E (c6_isSet l D K x hx) dX6_next_1 gL_X6_42 gS_X6_isSet gC_X6_isSet gZ_X6 (by decide +kernel) rfl ⟨Nat.le_of_ble_eq_true rfl, Nat.le_of_ble_eq_true rfl⟩ (Nat.le_of_ble_eq_true rfl) ⟨Nat.zero_le _, Nat.zero_le _⟩ rfl rfl (fun r w2 hp => ?_)
  rw [hp.1, hp.2]
  show hm_V p l e (hm_rm 3 0 0) s m args below meth c D (hm_A w s.heap.size) 3 0 0 (MQ below (hm_Qi D w s.heap.size (fun r w2 => (∃ z : Int, ((0 ≤ x ∧ x < 8) → (0 ≤ v ∧ v ≤ 4096) → isNext (mem (F x.toNat)) 4096 v z) ∧ (¬ (0 ≤ x ∧ x < 8) → z = -2) ∧ ((0 ≤ x ∧ x < 8) → ¬ (0 ≤ v ∧ v ≤ 4096) → z = -3) ∧ r = iI z) ∧ w2 = w)) args s 0 0 (hm_A w s.heap.size)) w 4 [(0, .ref (ad 0)), (1, .int (iI (x))), (2, .int (iI (v)))] [.int (bI (decide (0 ≤ x ∧ x < 8)))]
  refine hv_if_neB E 10 dX6_next_4 (by decide) rfl (fun c1 => ?_) (fun c1 => ?_)
  · have c1 := of_decide_eq_true c1
    refine hv_iload_n E dX6_next_10 rfl 2 rfl rfl ?_
    refine hv_callSI (na := 1) (As := [.int (iI (v))]) (st := []) E (c6_isBorder l D K v hv) dX6_next_11 gL_X6_79 gS_X6_isBorder gC_X6_isBorder gZ_X6 (by decide +kernel) rfl ⟨Nat.le_of_ble_eq_true rfl, Nat.le_of_ble_eq_true rfl⟩ (Nat.le_of_ble_eq_true rfl) ⟨Nat.zero_le _, Nat.zero_le _⟩ rfl rfl (fun r w2 hp => ?_)
    rw [hp.1, hp.2]
    show hm_V p l e (hm_rm 3 0 0) s m args below meth c D (hm_A w s.heap.size) 3 0 0 (MQ below (hm_Qi D w s.heap.size (fun r w2 => (∃ z : Int, ((0 ≤ x ∧ x < 8) → (0 ≤ v ∧ v ≤ 4096) → isNext (mem (F x.toNat)) 4096 v z) ∧ (¬ (0 ≤ x ∧ x < 8) → z = -2) ∧ ((0 ≤ x ∧ x < 8) → ¬ (0 ≤ v ∧ v ≤ 4096) → z = -3) ∧ r = iI z) ∧ w2 = w)) args s 0 0 (hm_A w s.heap.size)) w 14 [(0, .ref (ad 0)), (1, .int (iI (x))), (2, .int (iI (v)))] [.int (bI (decide (0 ≤ v ∧ v ≤ 4096)))]
    refine hv_if_neB E 20 dX6_next_14 (by decide) rfl (fun c2 => ?_) (fun c2 => ?_)
    · have c2 := of_decide_eq_true c2
      refine hv_aload_n E dX6_next_20 rfl 0 rfl rfl ?_
      refine hv_get (kf := 0) E dX6_next_21 (show vwCl[5]? = some (RX6, TX6, 4) from rfl) (by decide) gW_X6 gF_X6_11 rfl hk.o rfl rfl ?_
      refine hv_iload_n E dX6_next_24 rfl 1 rfl rfl ?_
      obtain ⟨fa, hfa, hfb⟩ := hk.2.1
      refine hv_aaldN E dX6_next_25 hfa (by omega) (by omega) (by decide) (hfb (x).toNat (by omega)) rfl ?_
      refine hv_iload_n E dX6_next_26 rfl 2 rfl rfl ?_
      refine hv_callVI (na := 1) (As := [.int (iI (v))]) (st := []) E (c2_leastFrom l D K v (by omega) (by omega) (hk.n (show (x).toNat < 8 by omega))) dX6_next_27 (hk.n (show (x).toNat < 8 by omega)).1 (show vwCl[1]? = some (RX2, TX2, 1) from rfl) gL_X6_89 gV_X2_leastFrom gI_X2_leastFrom gC_X2_leastFrom gZ_X2 (by decide +kernel) rfl ⟨Nat.le_of_ble_eq_true rfl, Nat.le_of_ble_eq_true rfl⟩ (Nat.le_of_ble_eq_true rfl) ⟨Nat.zero_le _, Nat.zero_le _⟩ rfl rfl (fun r w2 hp => ?_)
      obtain ⟨⟨z, p1, p2⟩, p3⟩ := hp
      rw [p2, p3]
      show hm_V p l e (hm_rm 3 0 0) s m args below meth c D (hm_A w s.heap.size) 3 0 0 (MQ below (hm_Qi D w s.heap.size (fun r w2 => (∃ z : Int, ((0 ≤ x ∧ x < 8) → (0 ≤ v ∧ v ≤ 4096) → isNext (mem (F x.toNat)) 4096 v z) ∧ (¬ (0 ≤ x ∧ x < 8) → z = -2) ∧ ((0 ≤ x ∧ x < 8) → ¬ (0 ≤ v ∧ v ≤ 4096) → z = -3) ∧ r = iI z) ∧ w2 = w)) args s 0 0 (hm_A w s.heap.size)) w 30 [(0, .ref (ad 0)), (1, .int (iI (x))), (2, .int (iI (v)))] [.int (iI (z))]
      exact hv_iret E dX6_next_30 hr ⟨⟨z, fun _ _ => p1, fun h => absurd (show 0 ≤ x ∧ x < 8 by omega) h, fun _ h => absurd (show 0 ≤ v ∧ v ≤ 4096 by omega) h, rfl⟩, rfl⟩
    · have c2 := of_decide_eq_false c2
      refine hv_bipush E dX6_next_17 (by decide +kernel) rfl ?_
      exact hv_iret E dX6_next_19 hr ⟨⟨-3, fun _ h => absurd h (by omega), fun h => absurd (show 0 ≤ x ∧ x < 8 by omega) h, fun _ _ => rfl, rfl⟩, rfl⟩
  · have c1 := of_decide_eq_false c1
    refine hv_bipush E dX6_next_7 (by decide +kernel) rfl ?_
    exact hv_iret E dX6_next_9 hr ⟨⟨-2, fun h => absurd h (by omega), fun _ => rfl, fun h => absurd h (by omega), rfl⟩, rfl⟩
theorem nth_before {S : Nat → Bool} {v z : Int} (h0 : 0 ≤ v) (h1 : v ≤ 4096) (h : isNth S 4096 ((ct S 0 v.toNat : Nat) - 1) z) : isBefore S v z := by
  rcases h with ⟨a1, a2⟩ | ⟨a1, a2, a3, a4⟩
  · refine Or.inl ⟨a1, fun u hu => ?_⟩
    cases e : S u with
    | false => rfl
    | true =>
      exfalso
      have g1 := ct_step (S := S) (a := 0) (n := u) (k := v.toNat) (by omega) (by rw [Nat.zero_add]; exact e)
      have g2 := ct_mono S 0 (show v.toNat ≤ 4096 by omega)
      rcases a2 with q | q
      · omega
      · omega
  · refine Or.inr ⟨a1, ?_, a3, fun u hu hv => ?_⟩
    · rcases (show z < v ∨ v ≤ z by omega) with q | q
      · exact q
      · exfalso
        have g2 := ct_mono S 0 (show v.toNat ≤ z.toNat by omega)
        omega
    · cases e : S u with
      | false => rfl
      | true =>
        exfalso
        have g1 := ct_step (S := S) (a := 0) (n := z.toNat) (k := u) (by omega) (by rw [Nat.zero_add]; exact a3)
        have g2 := ct_step (S := S) (a := 0) (n := u) (k := v.toNat) (by omega) (by rw [Nat.zero_add]; exact e)
        omega
theorem isBefore_inj {S : Nat → Bool} {v z y : Int} (h1 : isBefore S v z) (h2 : isBefore S v y) : z = y := by
  rcases h1 with ⟨a1, a2⟩ | ⟨a1, a2, a3, a4⟩ <;> rcases h2 with ⟨b1, b2⟩ | ⟨b1, b2, b3, b4⟩
  · omega
  · have := a2 y.toNat (by omega); rw [b3] at this; cases this
  · have := b2 z.toNat (by omega); rw [a3] at this; cases this
  · rcases (show z < y ∨ y < z ∨ z = y by omega) with q | q | q
    · have := a4 y.toNat (by omega) (by omega); rw [b3] at this; cases this
    · have := b4 z.toNat (by omega) (by omega); rw [a3] at this; cases this
    · exact q
set_option maxHeartbeats 4000000 in
set_option maxRecDepth 100000 in
theorem c6_before (l : Launch) (D : va_G) (K : Nat → ClassId) {w : hm_M} {ad : Nat → Nat} {F : Nat → Nat → Int32} {tf : Nat → Int32} {L P : Int} {df : Nat → Int32} (x v : Int) (hx : iB x) (hv : iB v) (hk : kAt K w ad F tf L P df)  : hm_Ci l D K yX6_before cX6_before 3 .int 3 [.ref (ad 0), .int (iI (x)), .int (iI (v))] w 0 0 (fun r w2 => (∃ z : Int, ((0 ≤ x ∧ x < 8) → (0 ≤ v ∧ v ≤ 4096) → isBefore (mem (F x.toNat)) v z) ∧ (¬ (0 ≤ x ∧ x < 8) → z = -2) ∧ ((0 ≤ x ∧ x < 8) → ¬ (0 ≤ v ∧ v ≤ 4096) → z = -3) ∧ r = iI z) ∧ w2 = w) := by
  refine hm_enterI (by decide) (Nat.le_of_ble_eq_true rfl) ?_
  intro p e s m args below meth c E hr hnm
  show hm_V p l e (hm_rm 3 0 0) s m args below meth c D (hm_A w s.heap.size) 3 0 0 (MQ below (hm_Qi D w s.heap.size (fun r w2 => (∃ z : Int, ((0 ≤ x ∧ x < 8) → (0 ≤ v ∧ v ≤ 4096) → isBefore (mem (F x.toNat)) v z) ∧ (¬ (0 ≤ x ∧ x < 8) → z = -2) ∧ ((0 ≤ x ∧ x < 8) → ¬ (0 ≤ v ∧ v ≤ 4096) → z = -3) ∧ r = iI z) ∧ w2 = w)) args s 0 0 (hm_A w s.heap.size)) w 0 [(0, .ref (ad 0)), (1, .int (iI (x))), (2, .int (iI (v)))] []
  refine hv_iload_n E dX6_before_0 rfl 1 rfl rfl ?_
  refine hv_callSI (na := 1) (As := [.int (iI (x))]) (st := []) E (c6_isSet l D K x hx) dX6_before_1 gL_X6_42 gS_X6_isSet gC_X6_isSet gZ_X6 (by decide +kernel) rfl ⟨Nat.le_of_ble_eq_true rfl, Nat.le_of_ble_eq_true rfl⟩ (Nat.le_of_ble_eq_true rfl) ⟨Nat.zero_le _, Nat.zero_le _⟩ rfl rfl (fun r w2 hp => ?_)
  rw [hp.1, hp.2]
  show hm_V p l e (hm_rm 3 0 0) s m args below meth c D (hm_A w s.heap.size) 3 0 0 (MQ below (hm_Qi D w s.heap.size (fun r w2 => (∃ z : Int, ((0 ≤ x ∧ x < 8) → (0 ≤ v ∧ v ≤ 4096) → isBefore (mem (F x.toNat)) v z) ∧ (¬ (0 ≤ x ∧ x < 8) → z = -2) ∧ ((0 ≤ x ∧ x < 8) → ¬ (0 ≤ v ∧ v ≤ 4096) → z = -3) ∧ r = iI z) ∧ w2 = w)) args s 0 0 (hm_A w s.heap.size)) w 4 [(0, .ref (ad 0)), (1, .int (iI (x))), (2, .int (iI (v)))] [.int (bI (decide (0 ≤ x ∧ x < 8)))]
  refine hv_if_neB E 10 dX6_before_4 (by decide) rfl (fun c1 => ?_) (fun c1 => ?_)
  · have c1 := of_decide_eq_true c1
    refine hv_iload_n E dX6_before_10 rfl 2 rfl rfl ?_
    refine hv_callSI (na := 1) (As := [.int (iI (v))]) (st := []) E (c6_isBorder l D K v hv) dX6_before_11 gL_X6_79 gS_X6_isBorder gC_X6_isBorder gZ_X6 (by decide +kernel) rfl ⟨Nat.le_of_ble_eq_true rfl, Nat.le_of_ble_eq_true rfl⟩ (Nat.le_of_ble_eq_true rfl) ⟨Nat.zero_le _, Nat.zero_le _⟩ rfl rfl (fun r w2 hp => ?_)
    rw [hp.1, hp.2]
    show hm_V p l e (hm_rm 3 0 0) s m args below meth c D (hm_A w s.heap.size) 3 0 0 (MQ below (hm_Qi D w s.heap.size (fun r w2 => (∃ z : Int, ((0 ≤ x ∧ x < 8) → (0 ≤ v ∧ v ≤ 4096) → isBefore (mem (F x.toNat)) v z) ∧ (¬ (0 ≤ x ∧ x < 8) → z = -2) ∧ ((0 ≤ x ∧ x < 8) → ¬ (0 ≤ v ∧ v ≤ 4096) → z = -3) ∧ r = iI z) ∧ w2 = w)) args s 0 0 (hm_A w s.heap.size)) w 14 [(0, .ref (ad 0)), (1, .int (iI (x))), (2, .int (iI (v)))] [.int (bI (decide (0 ≤ v ∧ v ≤ 4096)))]
    refine hv_if_neB E 20 dX6_before_14 (by decide) rfl (fun c2 => ?_) (fun c2 => ?_)
    · have c2 := of_decide_eq_true c2
      refine hv_aload_n E dX6_before_20 rfl 0 rfl rfl ?_
      refine hv_get (kf := 0) E dX6_before_21 (show vwCl[5]? = some (RX6, TX6, 4) from rfl) (by decide) gW_X6 gF_X6_11 rfl hk.o rfl rfl ?_
      refine hv_iload_n E dX6_before_24 rfl 1 rfl rfl ?_
      obtain ⟨fa, hfa, hfb⟩ := hk.2.1
      refine hv_aaldN E dX6_before_25 hfa (by omega) (by omega) (by decide) (hfb (x).toNat (by omega)) rfl ?_
      refine hv_aload_n E dX6_before_26 rfl 0 rfl rfl ?_
      refine hv_get (kf := 0) E dX6_before_27 (show vwCl[5]? = some (RX6, TX6, 4) from rfl) (by decide) gW_X6 gF_X6_11 rfl hk.o rfl rfl ?_
      refine hv_iload_n E dX6_before_30 rfl 1 rfl rfl ?_
      obtain ⟨fa, hfa, hfb⟩ := hk.2.1
      refine hv_aaldN E dX6_before_31 hfa (by omega) (by omega) (by decide) (hfb (x).toNat (by omega)) rfl ?_
      refine hv_iload_n E dX6_before_32 rfl 2 rfl rfl ?_
      refine hv_callVI (na := 1) (As := [.int (iI (v))]) (st := [.ref (ad (10 + (x).toNat))]) E (c2_amountBelow l D K v (by omega) (by omega) (hk.n (show (x).toNat < 8 by omega))) dX6_before_33 (hk.n (show (x).toNat < 8 by omega)).1 (show vwCl[1]? = some (RX2, TX2, 1) from rfl) gL_X6_82 gV_X2_amountBelow gI_X2_amountBelow gC_X2_amountBelow gZ_X2 (by decide +kernel) rfl ⟨Nat.le_of_ble_eq_true rfl, Nat.le_of_ble_eq_true rfl⟩ (Nat.le_of_ble_eq_true rfl) ⟨Nat.zero_le _, Nat.zero_le _⟩ rfl rfl (fun r w2 hp => ?_)
      rw [hp.1, hp.2]
      show hm_V p l e (hm_rm 3 0 0) s m args below meth c D (hm_A w s.heap.size) 3 0 0 (MQ below (hm_Qi D w s.heap.size (fun r w2 => (∃ z : Int, ((0 ≤ x ∧ x < 8) → (0 ≤ v ∧ v ≤ 4096) → isBefore (mem (F x.toNat)) v z) ∧ (¬ (0 ≤ x ∧ x < 8) → z = -2) ∧ ((0 ≤ x ∧ x < 8) → ¬ (0 ≤ v ∧ v ≤ 4096) → z = -3) ∧ r = iI z) ∧ w2 = w)) args s 0 0 (hm_A w s.heap.size)) w 36 [(0, .ref (ad 0)), (1, .int (iI (x))), (2, .int (iI (v)))] [.int (iI ((ct (mem (F x.toNat)) 0 v.toNat : Nat))), .ref (ad (10 + (x).toNat))]
      refine hv_iconst E dX6_before_36 rfl ?_
      refine hv_isub E dX6_before_37 rfl ?_
      have hle := ct_le (mem (F x.toNat)) 0 v.toNat
      refine hv_callVI (na := 1) (As := [.int (iI (((ct (mem (F x.toNat)) 0 v.toNat : Nat)) - 1))]) (st := []) E (c2_nth l D K (((ct (mem (F x.toNat)) 0 v.toNat : Nat)) - 1) ⟨by omega, by omega⟩ (hk.n (show (x).toNat < 8 by omega))) dX6_before_38 (hk.n (show (x).toNat < 8 by omega)).1 (show vwCl[1]? = some (RX2, TX2, 1) from rfl) gL_X6_86 gV_X2_nth gI_X2_nth gC_X2_nth gZ_X2 (by decide +kernel) rfl ⟨Nat.le_of_ble_eq_true rfl, Nat.le_of_ble_eq_true rfl⟩ (Nat.le_of_ble_eq_true rfl) ⟨Nat.zero_le _, Nat.zero_le _⟩ rfl rfl (fun r w2 hp => ?_)
      obtain ⟨⟨z, p1, p2⟩, p3⟩ := hp
      rw [p2, p3]
      show hm_V p l e (hm_rm 3 0 0) s m args below meth c D (hm_A w s.heap.size) 3 0 0 (MQ below (hm_Qi D w s.heap.size (fun r w2 => (∃ z : Int, ((0 ≤ x ∧ x < 8) → (0 ≤ v ∧ v ≤ 4096) → isBefore (mem (F x.toNat)) v z) ∧ (¬ (0 ≤ x ∧ x < 8) → z = -2) ∧ ((0 ≤ x ∧ x < 8) → ¬ (0 ≤ v ∧ v ≤ 4096) → z = -3) ∧ r = iI z) ∧ w2 = w)) args s 0 0 (hm_A w s.heap.size)) w 41 [(0, .ref (ad 0)), (1, .int (iI (x))), (2, .int (iI (v)))] [.int (iI (z))]
      exact hv_iret E dX6_before_41 hr ⟨⟨z, fun _ _ => nth_before (by omega) (by omega) p1, fun h => absurd (show 0 ≤ x ∧ x < 8 by omega) h, fun _ h => absurd (show 0 ≤ v ∧ v ≤ 4096 by omega) h, rfl⟩, rfl⟩
    · have c2 := of_decide_eq_false c2
      refine hv_bipush E dX6_before_17 (by decide +kernel) rfl ?_
      exact hv_iret E dX6_before_19 hr ⟨⟨-3, fun _ h => absurd h (by omega), fun h => absurd (show 0 ≤ x ∧ x < 8 by omega) h, fun _ _ => rfl, rfl⟩, rfl⟩
  · have c1 := of_decide_eq_false c1
    refine hv_bipush E dX6_before_7 (by decide +kernel) rfl ?_
    exact hv_iret E dX6_before_9 hr ⟨⟨-2, fun h => absurd h (by omega), fun _ => rfl, fun h => absurd h (by omega), rfl⟩, rfl⟩
set_option maxHeartbeats 4000000 in
set_option maxRecDepth 100000 in
theorem c6_common (l : Launch) (D : va_G) (K : Nat → ClassId) {w : hm_M} {ad : Nat → Nat} {F : Nat → Nat → Int32} {tf : Nat → Int32} {L P : Int} {df : Nat → Int32} (x y : Int) (hx : iB x) (hy : iB y) (hk : kAt K w ad F tf L P df)  : hm_Ci l D K yX6_common cX6_common 3 .int 2 [.ref (ad 0), .int (iI (x)), .int (iI (y))] w 0 0 (fun r w2 => r = iI (if (0 ≤ x ∧ x < 8) ∧ 0 ≤ y ∧ y < 8 then (ct (fun v => mem (F x.toNat) v && mem (F y.toNat) v) 0 4096 : Nat) else -2) ∧ w2 = w) := by
  refine hm_enterI (by decide) (Nat.le_of_ble_eq_true rfl) ?_
  intro p e s m args below meth c E hr hnm
  show hm_V p l e (hm_rm 2 0 0) s m args below meth c D (hm_A w s.heap.size) 3 0 0 (MQ below (hm_Qi D w s.heap.size (fun r w2 => r = iI (if (0 ≤ x ∧ x < 8) ∧ 0 ≤ y ∧ y < 8 then (ct (fun v => mem (F x.toNat) v && mem (F y.toNat) v) 0 4096 : Nat) else -2) ∧ w2 = w)) args s 0 0 (hm_A w s.heap.size)) w 0 [(0, .ref (ad 0)), (1, .int (iI (x))), (2, .int (iI (y)))] []
  refine hv_iload_n E dX6_common_0 rfl 1 rfl rfl ?_
  refine hv_callSI (na := 1) (As := [.int (iI (x))]) (st := []) E (c6_isSet l D K x hx) dX6_common_1 gL_X6_42 gS_X6_isSet gC_X6_isSet gZ_X6 (by decide +kernel) rfl ⟨Nat.le_of_ble_eq_true rfl, Nat.le_of_ble_eq_true rfl⟩ (Nat.le_of_ble_eq_true rfl) ⟨Nat.zero_le _, Nat.zero_le _⟩ rfl rfl (fun r w2 hp => ?_)
  rw [hp.1, hp.2]
  show hm_V p l e (hm_rm 2 0 0) s m args below meth c D (hm_A w s.heap.size) 3 0 0 (MQ below (hm_Qi D w s.heap.size (fun r w2 => r = iI (if (0 ≤ x ∧ x < 8) ∧ 0 ≤ y ∧ y < 8 then (ct (fun v => mem (F x.toNat) v && mem (F y.toNat) v) 0 4096 : Nat) else -2) ∧ w2 = w)) args s 0 0 (hm_A w s.heap.size)) w 4 [(0, .ref (ad 0)), (1, .int (iI (x))), (2, .int (iI (y)))] [.int (bI (decide (0 ≤ x ∧ x < 8)))]
  refine hv_if_eqB E 14 dX6_common_4 (by decide) rfl (fun c1 => ?_) (fun c1 => ?_)
  · have c1 := of_decide_eq_false c1
    refine hv_bipush E dX6_common_14 (by decide +kernel) rfl ?_
    exact hv_iret E dX6_common_16 hr ⟨(by (repeat (first | rw [if_pos (by omega)] | rw [if_neg (by omega)])) <;> first | done | rfl), rfl⟩
  · have c1 := of_decide_eq_true c1
    refine hv_iload_n E dX6_common_7 rfl 2 rfl rfl ?_
    refine hv_callSI (na := 1) (As := [.int (iI (y))]) (st := []) E (c6_isSet l D K y hy) dX6_common_8 gL_X6_42 gS_X6_isSet gC_X6_isSet gZ_X6 (by decide +kernel) rfl ⟨Nat.le_of_ble_eq_true rfl, Nat.le_of_ble_eq_true rfl⟩ (Nat.le_of_ble_eq_true rfl) ⟨Nat.zero_le _, Nat.zero_le _⟩ rfl rfl (fun r w2 hp => ?_)
    rw [hp.1, hp.2]
    show hm_V p l e (hm_rm 2 0 0) s m args below meth c D (hm_A w s.heap.size) 3 0 0 (MQ below (hm_Qi D w s.heap.size (fun r w2 => r = iI (if (0 ≤ x ∧ x < 8) ∧ 0 ≤ y ∧ y < 8 then (ct (fun v => mem (F x.toNat) v && mem (F y.toNat) v) 0 4096 : Nat) else -2) ∧ w2 = w)) args s 0 0 (hm_A w s.heap.size)) w 11 [(0, .ref (ad 0)), (1, .int (iI (x))), (2, .int (iI (y)))] [.int (bI (decide (0 ≤ y ∧ y < 8)))]
    refine hv_if_neB E 17 dX6_common_11 (by decide) rfl (fun c2 => ?_) (fun c2 => ?_)
    · have c2 := of_decide_eq_true c2
      refine hv_aload_n E dX6_common_17 rfl 0 rfl rfl ?_
      refine hv_get (kf := 0) E dX6_common_18 (show vwCl[5]? = some (RX6, TX6, 4) from rfl) (by decide) gW_X6 gF_X6_11 rfl hk.o rfl rfl ?_
      refine hv_iload_n E dX6_common_21 rfl 1 rfl rfl ?_
      obtain ⟨fa, hfa, hfb⟩ := hk.2.1
      refine hv_aaldN E dX6_common_22 hfa (by omega) (by omega) (by decide) (hfb (x).toNat (by omega)) rfl ?_
      refine hv_aload_n E dX6_common_23 rfl 0 rfl rfl ?_
      refine hv_get (kf := 0) E dX6_common_24 (show vwCl[5]? = some (RX6, TX6, 4) from rfl) (by decide) gW_X6 gF_X6_11 rfl hk.o rfl rfl ?_
      refine hv_iload_n E dX6_common_27 rfl 2 rfl rfl ?_
      obtain ⟨fa, hfa, hfb⟩ := hk.2.1
      refine hv_aaldN E dX6_common_28 hfa (by omega) (by omega) (by decide) (hfb (y).toNat (by omega)) rfl ?_
      refine hv_callVI (na := 1) (As := [.ref (ad (10 + (y).toNat))]) (st := []) E (c2_amountShared l D K (hk.n (show (x).toNat < 8 by omega)) (hk.n (show (y).toNat < 8 by omega))) dX6_common_29 (hk.n (show (x).toNat < 8 by omega)).1 (show vwCl[1]? = some (RX2, TX2, 1) from rfl) gL_X6_92 gV_X2_amountShared gI_X2_amountShared gC_X2_amountShared gZ_X2 (by decide +kernel) rfl ⟨Nat.le_of_ble_eq_true rfl, Nat.le_of_ble_eq_true rfl⟩ (Nat.le_of_ble_eq_true rfl) ⟨Nat.zero_le _, Nat.zero_le _⟩ rfl rfl (fun r w2 hp => ?_)
      rw [hp.1, hp.2]
      show hm_V p l e (hm_rm 2 0 0) s m args below meth c D (hm_A w s.heap.size) 3 0 0 (MQ below (hm_Qi D w s.heap.size (fun r w2 => r = iI (if (0 ≤ x ∧ x < 8) ∧ 0 ≤ y ∧ y < 8 then (ct (fun v => mem (F x.toNat) v && mem (F y.toNat) v) 0 4096 : Nat) else -2) ∧ w2 = w)) args s 0 0 (hm_A w s.heap.size)) w 32 [(0, .ref (ad 0)), (1, .int (iI (x))), (2, .int (iI (y)))] [.int (iI ((ct (fun v => mem (F x.toNat) v && mem (F y.toNat) v) 0 4096 : Nat)))]
      exact hv_iret E dX6_common_32 hr ⟨(by (repeat (first | rw [if_pos (by omega)] | rw [if_neg (by omega)])) <;> first | done | rfl), rfl⟩
    · have c2 := of_decide_eq_false c2
      refine hv_bipush E dX6_common_14 (by decide +kernel) rfl ?_
      exact hv_iret E dX6_common_16 hr ⟨(by (repeat (first | rw [if_pos (by omega)] | rw [if_neg (by omega)])) <;> first | done | rfl), rfl⟩
set_option maxHeartbeats 4000000 in
set_option maxRecDepth 100000 in
theorem c6_piece (l : Launch) (D : va_G) (K : Nat → ClassId) {w : hm_M} {ad : Nat → Nat} {F : Nat → Nat → Int32} {tf : Nat → Int32} {L P : Int} {df : Nat → Int32} (x h n : Int) (hx : iB x) (hh : iB h) (hn : iB n) (hk : kAt K w ad F tf L P df)  : hm_Ci l D K yX6_piece cX6_piece 4 .int 4 [.ref (ad 0), .int (iI (x)), .int (iI (h)), .int (iI (n))] w 0 0 (fun r w2 => r = iI (if 0 ≤ x ∧ x < 8 then (if (0 ≤ h ∧ h < 16) ∧ 0 ≤ n ∧ n < 4 then (if n = 0 then pF (mem (F x.toNat)) h else if n = 1 then pN (mem (F x.toNat)) h else if n = 2 then pR (mem (F x.toNat)) h else pB (mem (F x.toNat)) h) else -3) else -2) ∧ w2 = w) := by
  refine hm_enterI (by decide) (Nat.le_of_ble_eq_true rfl) ?_
  intro p e s m args below meth c E hr hnm
  show hm_V p l e (hm_rm 4 0 0) s m args below meth c D (hm_A w s.heap.size) 4 0 0 (MQ below (hm_Qi D w s.heap.size (fun r w2 => r = iI (if 0 ≤ x ∧ x < 8 then (if (0 ≤ h ∧ h < 16) ∧ 0 ≤ n ∧ n < 4 then (if n = 0 then pF (mem (F x.toNat)) h else if n = 1 then pN (mem (F x.toNat)) h else if n = 2 then pR (mem (F x.toNat)) h else pB (mem (F x.toNat)) h) else -3) else -2) ∧ w2 = w)) args s 0 0 (hm_A w s.heap.size)) w 0 [(0, .ref (ad 0)), (1, .int (iI (x))), (2, .int (iI (h))), (3, .int (iI (n)))] []
  refine hv_iload_n E dX6_piece_0 rfl 1 rfl rfl ?_
  refine hv_callSI (na := 1) (As := [.int (iI (x))]) (st := []) E (c6_isSet l D K x hx) dX6_piece_1 gL_X6_42 gS_X6_isSet gC_X6_isSet gZ_X6 (by decide +kernel) rfl ⟨Nat.le_of_ble_eq_true rfl, Nat.le_of_ble_eq_true rfl⟩ (Nat.le_of_ble_eq_true rfl) ⟨Nat.zero_le _, Nat.zero_le _⟩ rfl rfl (fun r w2 hp => ?_)
  rw [hp.1, hp.2]
  show hm_V p l e (hm_rm 4 0 0) s m args below meth c D (hm_A w s.heap.size) 4 0 0 (MQ below (hm_Qi D w s.heap.size (fun r w2 => r = iI (if 0 ≤ x ∧ x < 8 then (if (0 ≤ h ∧ h < 16) ∧ 0 ≤ n ∧ n < 4 then (if n = 0 then pF (mem (F x.toNat)) h else if n = 1 then pN (mem (F x.toNat)) h else if n = 2 then pR (mem (F x.toNat)) h else pB (mem (F x.toNat)) h) else -3) else -2) ∧ w2 = w)) args s 0 0 (hm_A w s.heap.size)) w 4 [(0, .ref (ad 0)), (1, .int (iI (x))), (2, .int (iI (h))), (3, .int (iI (n)))] [.int (bI (decide (0 ≤ x ∧ x < 8)))]
  refine hv_if_neB E 10 dX6_piece_4 (by decide) rfl (fun c1 => ?_) (fun c1 => ?_)
  · have c1 := of_decide_eq_true c1
    refine hv_iload_n E dX6_piece_10 rfl 2 rfl rfl ?_
    refine hv_if_lt E 20 dX6_piece_11 (by decide) hh rfl (fun c2 => ?_) (fun c2 => ?_)
    · skip
      refine hv_bipush E dX6_piece_20 (by decide +kernel) rfl ?_
      exact hv_iret E dX6_piece_22 hr ⟨(by (repeat (first | rw [if_pos (by omega)] | rw [if_neg (by omega)])) <;> first | done | rfl), rfl⟩
    · skip
      refine hv_iload_n E dX6_piece_14 rfl 2 rfl rfl ?_
      refine hv_bipush E dX6_piece_15 (by decide +kernel) rfl ?_
      refine hv_icmp_lt E 23 dX6_piece_17 (by decide) hh ⟨by omega, by omega⟩ rfl (fun c3 => ?_) (fun c3 => ?_)
      · skip
        refine hv_iload_n E dX6_piece_23 rfl 3 rfl rfl ?_
        rcases (show n = 0 ∨ n = 1 ∨ n = 2 ∨ n = 3 ∨ (n < 0 ∨ 3 < n) by omega) with hsw | hsw | hsw | hsw | hsw
        · refine hv_tableIn E 56 dX6_piece_24 hn (by omega) (by omega) (by rw [hsw]; rfl) (by decide) ?_
          refine hv_aload_n E dX6_piece_56 rfl 0 rfl rfl ?_
          refine hv_get (kf := 0) E dX6_piece_57 (show vwCl[5]? = some (RX6, TX6, 4) from rfl) (by decide) gW_X6 gF_X6_11 rfl hk.o rfl rfl ?_
          refine hv_iload_n E dX6_piece_60 rfl 1 rfl rfl ?_
          obtain ⟨fa, hfa, hfb⟩ := hk.2.1
          refine hv_aaldN E dX6_piece_61 hfa (by omega) (by omega) (by decide) (hfb (x).toNat (by omega)) rfl ?_
          refine hv_iload_n E dX6_piece_62 rfl 2 rfl rfl ?_
          refine hv_callVI (na := 1) (As := [.int (iI (h))]) (st := []) E (c2_pieceForm l D K h (by omega) (by omega) (hk.n (show (x).toNat < 8 by omega))) dX6_piece_63 (hk.n (show (x).toNat < 8 by omega)).1 (show vwCl[1]? = some (RX2, TX2, 1) from rfl) gL_X6_96 gV_X2_pieceForm gI_X2_pieceForm gC_X2_pieceForm gZ_X2 (by decide +kernel) rfl ⟨Nat.le_of_ble_eq_true rfl, Nat.le_of_ble_eq_true rfl⟩ (Nat.le_of_ble_eq_true rfl) ⟨Nat.zero_le _, Nat.zero_le _⟩ rfl rfl (fun r w2 hp => ?_)
          rw [hp.1, hp.2]
          show hm_V p l e (hm_rm 4 0 0) s m args below meth c D (hm_A w s.heap.size) 4 0 0 (MQ below (hm_Qi D w s.heap.size (fun r w2 => r = iI (if 0 ≤ x ∧ x < 8 then (if (0 ≤ h ∧ h < 16) ∧ 0 ≤ n ∧ n < 4 then (if n = 0 then pF (mem (F x.toNat)) h else if n = 1 then pN (mem (F x.toNat)) h else if n = 2 then pR (mem (F x.toNat)) h else pB (mem (F x.toNat)) h) else -3) else -2) ∧ w2 = w)) args s 0 0 (hm_A w s.heap.size)) w 66 [(0, .ref (ad 0)), (1, .int (iI (x))), (2, .int (iI (h))), (3, .int (iI (n)))] [.int (iI (pF (mem (F x.toNat)) h))]
          exact hv_iret E dX6_piece_66 hr ⟨(by (repeat (first | rw [if_pos (by omega)] | rw [if_neg (by omega)])) <;> first | done | rfl), rfl⟩
        · refine hv_tableIn E 67 dX6_piece_24 hn (by omega) (by omega) (by rw [hsw]; rfl) (by decide) ?_
          refine hv_aload_n E dX6_piece_67 rfl 0 rfl rfl ?_
          refine hv_get (kf := 0) E dX6_piece_68 (show vwCl[5]? = some (RX6, TX6, 4) from rfl) (by decide) gW_X6 gF_X6_11 rfl hk.o rfl rfl ?_
          refine hv_iload_n E dX6_piece_71 rfl 1 rfl rfl ?_
          obtain ⟨fa, hfa, hfb⟩ := hk.2.1
          refine hv_aaldN E dX6_piece_72 hfa (by omega) (by omega) (by decide) (hfb (x).toNat (by omega)) rfl ?_
          refine hv_iload_n E dX6_piece_73 rfl 2 rfl rfl ?_
          refine hv_callVI (na := 1) (As := [.int (iI (h))]) (st := []) E (c2_pieceAmount l D K h (by omega) (by omega) (hk.n (show (x).toNat < 8 by omega))) dX6_piece_74 (hk.n (show (x).toNat < 8 by omega)).1 (show vwCl[1]? = some (RX2, TX2, 1) from rfl) gL_X6_99 gV_X2_pieceAmount gI_X2_pieceAmount gC_X2_pieceAmount gZ_X2 (by decide +kernel) rfl ⟨Nat.le_of_ble_eq_true rfl, Nat.le_of_ble_eq_true rfl⟩ (Nat.le_of_ble_eq_true rfl) ⟨Nat.zero_le _, Nat.zero_le _⟩ rfl rfl (fun r w2 hp => ?_)
          rw [hp.1, hp.2]
          show hm_V p l e (hm_rm 4 0 0) s m args below meth c D (hm_A w s.heap.size) 4 0 0 (MQ below (hm_Qi D w s.heap.size (fun r w2 => r = iI (if 0 ≤ x ∧ x < 8 then (if (0 ≤ h ∧ h < 16) ∧ 0 ≤ n ∧ n < 4 then (if n = 0 then pF (mem (F x.toNat)) h else if n = 1 then pN (mem (F x.toNat)) h else if n = 2 then pR (mem (F x.toNat)) h else pB (mem (F x.toNat)) h) else -3) else -2) ∧ w2 = w)) args s 0 0 (hm_A w s.heap.size)) w 77 [(0, .ref (ad 0)), (1, .int (iI (x))), (2, .int (iI (h))), (3, .int (iI (n)))] [.int (iI (pN (mem (F x.toNat)) h))]
          have hN := pN_b (mem (F x.toNat)) h
          exact hv_iret E dX6_piece_77 hr ⟨(by (repeat (first | rw [if_pos (by omega)] | rw [if_neg (by omega)])) <;> first | done | rfl), rfl⟩
        · refine hv_tableIn E 78 dX6_piece_24 hn (by omega) (by omega) (by rw [hsw]; rfl) (by decide) ?_
          refine hv_aload_n E dX6_piece_78 rfl 0 rfl rfl ?_
          refine hv_get (kf := 0) E dX6_piece_79 (show vwCl[5]? = some (RX6, TX6, 4) from rfl) (by decide) gW_X6 gF_X6_11 rfl hk.o rfl rfl ?_
          refine hv_iload_n E dX6_piece_82 rfl 1 rfl rfl ?_
          obtain ⟨fa, hfa, hfb⟩ := hk.2.1
          refine hv_aaldN E dX6_piece_83 hfa (by omega) (by omega) (by decide) (hfb (x).toNat (by omega)) rfl ?_
          refine hv_iload_n E dX6_piece_84 rfl 2 rfl rfl ?_
          refine hv_callVI (na := 1) (As := [.int (iI (h))]) (st := []) E (c2_pieceRuns l D K h (by omega) (by omega) (hk.n (show (x).toNat < 8 by omega))) dX6_piece_85 (hk.n (show (x).toNat < 8 by omega)).1 (show vwCl[1]? = some (RX2, TX2, 1) from rfl) gL_X6_102 gV_X2_pieceRuns gI_X2_pieceRuns gC_X2_pieceRuns gZ_X2 (by decide +kernel) rfl ⟨Nat.le_of_ble_eq_true rfl, Nat.le_of_ble_eq_true rfl⟩ (Nat.le_of_ble_eq_true rfl) ⟨Nat.zero_le _, Nat.zero_le _⟩ rfl rfl (fun r w2 hp => ?_)
          rw [hp.1, hp.2]
          show hm_V p l e (hm_rm 4 0 0) s m args below meth c D (hm_A w s.heap.size) 4 0 0 (MQ below (hm_Qi D w s.heap.size (fun r w2 => r = iI (if 0 ≤ x ∧ x < 8 then (if (0 ≤ h ∧ h < 16) ∧ 0 ≤ n ∧ n < 4 then (if n = 0 then pF (mem (F x.toNat)) h else if n = 1 then pN (mem (F x.toNat)) h else if n = 2 then pR (mem (F x.toNat)) h else pB (mem (F x.toNat)) h) else -3) else -2) ∧ w2 = w)) args s 0 0 (hm_A w s.heap.size)) w 88 [(0, .ref (ad 0)), (1, .int (iI (x))), (2, .int (iI (h))), (3, .int (iI (n)))] [.int (iI (pR (mem (F x.toNat)) h))]
          exact hv_iret E dX6_piece_88 hr ⟨(by (repeat (first | rw [if_pos (by omega)] | rw [if_neg (by omega)])) <;> first | done | rfl), rfl⟩
        · refine hv_tableIn E 89 dX6_piece_24 hn (by omega) (by omega) (by rw [hsw]; rfl) (by decide) ?_
          refine hv_aload_n E dX6_piece_89 rfl 0 rfl rfl ?_
          refine hv_get (kf := 0) E dX6_piece_90 (show vwCl[5]? = some (RX6, TX6, 4) from rfl) (by decide) gW_X6 gF_X6_11 rfl hk.o rfl rfl ?_
          refine hv_iload_n E dX6_piece_93 rfl 1 rfl rfl ?_
          obtain ⟨fa, hfa, hfb⟩ := hk.2.1
          refine hv_aaldN E dX6_piece_94 hfa (by omega) (by omega) (by decide) (hfb (x).toNat (by omega)) rfl ?_
          refine hv_iload_n E dX6_piece_95 rfl 2 rfl rfl ?_
          refine hv_callVI (na := 1) (As := [.int (iI (h))]) (st := []) E (c2_pieceBits l D K h (by omega) (by omega) (hk.n (show (x).toNat < 8 by omega))) dX6_piece_96 (hk.n (show (x).toNat < 8 by omega)).1 (show vwCl[1]? = some (RX2, TX2, 1) from rfl) gL_X6_105 gV_X2_pieceBits gI_X2_pieceBits gC_X2_pieceBits gZ_X2 (by decide +kernel) rfl ⟨Nat.le_of_ble_eq_true rfl, Nat.le_of_ble_eq_true rfl⟩ (Nat.le_of_ble_eq_true rfl) ⟨Nat.zero_le _, Nat.zero_le _⟩ rfl rfl (fun r w2 hp => ?_)
          rw [hp.1, hp.2]
          show hm_V p l e (hm_rm 4 0 0) s m args below meth c D (hm_A w s.heap.size) 4 0 0 (MQ below (hm_Qi D w s.heap.size (fun r w2 => r = iI (if 0 ≤ x ∧ x < 8 then (if (0 ≤ h ∧ h < 16) ∧ 0 ≤ n ∧ n < 4 then (if n = 0 then pF (mem (F x.toNat)) h else if n = 1 then pN (mem (F x.toNat)) h else if n = 2 then pR (mem (F x.toNat)) h else pB (mem (F x.toNat)) h) else -3) else -2) ∧ w2 = w)) args s 0 0 (hm_A w s.heap.size)) w 99 [(0, .ref (ad 0)), (1, .int (iI (x))), (2, .int (iI (h))), (3, .int (iI (n)))] [.int (iI (pB (mem (F x.toNat)) h))]
          have hB := pB_b (mem (F x.toNat)) h
          exact hv_iret E dX6_piece_99 hr ⟨(by (repeat (first | rw [if_pos (by omega)] | rw [if_neg (by omega)])) <;> first | done | rfl), rfl⟩
        · refine hv_tableOut E 100 dX6_piece_24 hn hsw (by decide) ?_
          refine hv_bipush E dX6_piece_100 (by decide +kernel) rfl ?_
          exact hv_iret E dX6_piece_102 hr ⟨(by (repeat (first | rw [if_pos (by omega)] | rw [if_neg (by omega)])) <;> first | done | rfl), rfl⟩
      · skip
        refine hv_bipush E dX6_piece_20 (by decide +kernel) rfl ?_
        exact hv_iret E dX6_piece_22 hr ⟨(by (repeat (first | rw [if_pos (by omega)] | rw [if_neg (by omega)])) <;> first | done | rfl), rfl⟩
  · have c1 := of_decide_eq_false c1
    refine hv_bipush E dX6_piece_7 (by decide +kernel) rfl ?_
    exact hv_iret E dX6_piece_9 hr ⟨(by (repeat (first | rw [if_pos (by omega)] | rw [if_neg (by omega)])) <;> first | done | rfl), rfl⟩
set_option maxHeartbeats 4000000 in
set_option maxRecDepth 100000 in
theorem c6_cost (l : Launch) (D : va_G) (K : Nat → ClassId) {w : hm_M} {ad : Nat → Nat} {F : Nat → Nat → Int32} {tf : Nat → Int32} {L P : Int} {df : Nat → Int32} (x : Int) (hx : iB x) (hk : kAt K w ad F tf L P df)  : hm_Ci l D K yX6_cost cX6_cost 4 .int 4 [.ref (ad 0), .int (iI (x))] w 0 0 (fun r w2 => r = iI (if 0 ≤ x ∧ x < 8 then cs (mem (F x.toNat)) 16 else -2) ∧ w2 = w) := by
  refine hm_enterI (by decide) (Nat.le_of_ble_eq_true rfl) ?_
  intro p e s m args below meth c E hr hnm
  show hm_V p l e (hm_rm 4 0 0) s m args below meth c D (hm_A w s.heap.size) 4 0 0 (MQ below (hm_Qi D w s.heap.size (fun r w2 => r = iI (if 0 ≤ x ∧ x < 8 then cs (mem (F x.toNat)) 16 else -2) ∧ w2 = w)) args s 0 0 (hm_A w s.heap.size)) w 0 [(0, .ref (ad 0)), (1, .int (iI (x)))] []
  refine hv_iload_n E dX6_cost_0 rfl 1 rfl rfl ?_
  refine hv_callSI (na := 1) (As := [.int (iI (x))]) (st := []) E (c6_isSet l D K x hx) dX6_cost_1 gL_X6_42 gS_X6_isSet gC_X6_isSet gZ_X6 (by decide +kernel) rfl ⟨Nat.le_of_ble_eq_true rfl, Nat.le_of_ble_eq_true rfl⟩ (Nat.le_of_ble_eq_true rfl) ⟨Nat.zero_le _, Nat.zero_le _⟩ rfl rfl (fun r w2 hp => ?_)
  rw [hp.1, hp.2]
  show hm_V p l e (hm_rm 4 0 0) s m args below meth c D (hm_A w s.heap.size) 4 0 0 (MQ below (hm_Qi D w s.heap.size (fun r w2 => r = iI (if 0 ≤ x ∧ x < 8 then cs (mem (F x.toNat)) 16 else -2) ∧ w2 = w)) args s 0 0 (hm_A w s.heap.size)) w 4 [(0, .ref (ad 0)), (1, .int (iI (x)))] [.int (bI (decide (0 ≤ x ∧ x < 8)))]
  refine hv_if_neB E 10 dX6_cost_4 (by decide) rfl (fun c1 => ?_) (fun c1 => ?_)
  · have c1 := of_decide_eq_true c1
    refine hv_iconst E dX6_cost_10 rfl ?_
    refine hv_istore_n (lv2 := [(2, .int (iI (0))), (0, .ref (ad 0)), (1, .int (iI (x)))]) E dX6_cost_11 rfl (by decide) rfl rfl ?_
    refine hv_iconst E dX6_cost_12 rfl ?_
    refine hv_istore_n (lv2 := [(3, .int (iI (0))), (2, .int (iI (0))), (0, .ref (ad 0)), (1, .int (iI (x)))]) E dX6_cost_13 rfl (by decide) rfl rfl ?_
    have hX : 0 ≤ x ∧ x < 8 := by omega
    have LP : ∀ (k : Nat) (j sm : Int), (16 - j < (k : Int)) → (0 ≤ j) → (j ≤ 16) → (sm = cs (mem (F x.toNat)) j.toNat) → hm_V p l e (hm_rm 4 0 0) s m args below meth c D (hm_A w s.heap.size) 4 0 0 (MQ below (hm_Qi D w s.heap.size (fun r w2 => r = iI (if 0 ≤ x ∧ x < 8 then cs (mem (F x.toNat)) 16 else -2) ∧ w2 = w)) args s 0 0 (hm_A w s.heap.size)) w 14 [(3, .int (iI (j))), (2, .int (iI (sm))), (0, .ref (ad 0)), (1, .int (iI (x)))] [] := by
      intro k
      induction k with
      | zero =>
        intro j sm hk2 g0 g1 hs
        exact absurd hk2 (by omega)
      | succ k ih =>
        intro j sm hk2 g0 g1 hs
        refine hv_iload_n E dX6_cost_14 rfl 0 rfl rfl ?_
        refine hv_bipush E dX6_cost_15 (by decide +kernel) rfl ?_
        refine hv_icmp_ge E 55 dX6_cost_17 (by decide) ⟨by omega, by omega⟩ ⟨by omega, by omega⟩ rfl (fun c2 => ?_) (fun c2 => ?_)
        · skip
          refine hv_iload_n E dX6_cost_55 rfl 1 rfl rfl ?_
          exact hv_iret E dX6_cost_56 hr ⟨by rw [if_pos hX, hs, show j.toNat = 16 by omega], rfl⟩
        · skip
          refine hv_aload_n E dX6_cost_20 rfl 2 rfl rfl ?_
          refine hv_get (kf := 0) E dX6_cost_21 (show vwCl[5]? = some (RX6, TX6, 4) from rfl) (by decide) gW_X6 gF_X6_11 rfl hk.o rfl rfl ?_
          refine hv_iload_n E dX6_cost_24 rfl 3 rfl rfl ?_
          obtain ⟨fa, hfa, hfb⟩ := hk.2.1
          refine hv_aaldN E dX6_cost_25 hfa (by omega) (by omega) (by decide) (hfb (x).toNat (by omega)) rfl ?_
          refine hv_iload_n E dX6_cost_26 rfl 0 rfl rfl ?_
          refine hv_callVI (na := 1) (As := [.int (iI (j))]) (st := []) E (c2_pieceAmount l D K j (by omega) (by omega) (hk.n (show (x).toNat < 8 by omega))) dX6_cost_27 (hk.n (show (x).toNat < 8 by omega)).1 (show vwCl[1]? = some (RX2, TX2, 1) from rfl) gL_X6_99 gV_X2_pieceAmount gI_X2_pieceAmount gC_X2_pieceAmount gZ_X2 (by decide +kernel) rfl ⟨Nat.le_of_ble_eq_true rfl, Nat.le_of_ble_eq_true rfl⟩ (Nat.le_of_ble_eq_true rfl) ⟨Nat.zero_le _, Nat.zero_le _⟩ rfl rfl (fun r w2 hp => ?_)
          rw [hp.1, hp.2]
          show hm_V p l e (hm_rm 4 0 0) s m args below meth c D (hm_A w s.heap.size) 4 0 0 (MQ below (hm_Qi D w s.heap.size (fun r w2 => r = iI (if 0 ≤ x ∧ x < 8 then cs (mem (F x.toNat)) 16 else -2) ∧ w2 = w)) args s 0 0 (hm_A w s.heap.size)) w 30 [(3, .int (iI (j))), (2, .int (iI (sm))), (0, .ref (ad 0)), (1, .int (iI (x)))] [.int (iI (pN (mem (F x.toNat)) j))]
          have hN := pN_b (mem (F x.toNat)) j
          refine hv_if_le E 49 dX6_cost_30 (by decide) ⟨by omega, by omega⟩ rfl (fun c3 => ?_) (fun c3 => ?_)
          · skip
            refine hv_iinc (lv2 := [(3, .int (iI (j + 1))), (2, .int (iI (sm))), (0, .ref (ad 0)), (1, .int (iI (x)))]) E dX6_cost_49 0 rfl rfl (by decide) rfl rfl ?_
            refine hv_goto E 14 dX6_cost_52 (by decide) ?_
            refine hv_sub (lv2 := [(3, .int (iI (j + 1))), (2, .int (iI (sm))), (0, .ref (ad 0)), (1, .int (iI (x)))]) [0, 1, 2, 3] rfl ?_
            exact ih (j + 1) _ (by omega) (by omega) (by omega) (by
                  rw [show (j + 1).toNat = j.toNat + 1 by omega]
                  simp only [cs]
                  rw [Int.toNat_of_nonneg g0, hs]
                  split <;> omega)
          · skip
            refine hv_iload_n E dX6_cost_33 rfl 1 rfl rfl ?_
            refine hv_bipush E dX6_cost_34 (by decide +kernel) rfl ?_
            refine hv_aload_n E dX6_cost_36 rfl 2 rfl rfl ?_
            refine hv_get (kf := 0) E dX6_cost_37 (show vwCl[5]? = some (RX6, TX6, 4) from rfl) (by decide) gW_X6 gF_X6_11 rfl hk.o rfl rfl ?_
            refine hv_iload_n E dX6_cost_40 rfl 3 rfl rfl ?_
            obtain ⟨fa, hfa, hfb⟩ := hk.2.1
            refine hv_aaldN E dX6_cost_41 hfa (by omega) (by omega) (by decide) (hfb (x).toNat (by omega)) rfl ?_
            refine hv_iload_n E dX6_cost_42 rfl 0 rfl rfl ?_
            refine hv_callVI (na := 1) (As := [.int (iI (j))]) (st := [.int (iI (16)), .int (iI (sm))]) E (c2_pieceBits l D K j (by omega) (by omega) (hk.n (show (x).toNat < 8 by omega))) dX6_cost_43 (hk.n (show (x).toNat < 8 by omega)).1 (show vwCl[1]? = some (RX2, TX2, 1) from rfl) gL_X6_105 gV_X2_pieceBits gI_X2_pieceBits gC_X2_pieceBits gZ_X2 (by decide +kernel) rfl ⟨Nat.le_of_ble_eq_true rfl, Nat.le_of_ble_eq_true rfl⟩ (Nat.le_of_ble_eq_true rfl) ⟨Nat.zero_le _, Nat.zero_le _⟩ rfl rfl (fun r w2 hp => ?_)
            rw [hp.1, hp.2]
            show hm_V p l e (hm_rm 4 0 0) s m args below meth c D (hm_A w s.heap.size) 4 0 0 (MQ below (hm_Qi D w s.heap.size (fun r w2 => r = iI (if 0 ≤ x ∧ x < 8 then cs (mem (F x.toNat)) 16 else -2) ∧ w2 = w)) args s 0 0 (hm_A w s.heap.size)) w 46 [(3, .int (iI (j))), (2, .int (iI (sm))), (0, .ref (ad 0)), (1, .int (iI (x)))] [.int (iI (pB (mem (F x.toNat)) j)), .int (iI (16)), .int (iI (sm))]
            have hB := pB_b (mem (F x.toNat)) j
            refine hv_iadd E dX6_cost_46 rfl ?_
            refine hv_iadd E dX6_cost_47 rfl ?_
            refine hv_istore_n (lv2 := [(2, .int (iI (sm + (16 + (pB (mem (F x.toNat)) j))))), (3, .int (iI (j))), (0, .ref (ad 0)), (1, .int (iI (x)))]) E dX6_cost_48 rfl (by decide) rfl rfl ?_
            refine hv_iinc (lv2 := [(3, .int (iI (j + 1))), (2, .int (iI (sm + (16 + (pB (mem (F x.toNat)) j))))), (0, .ref (ad 0)), (1, .int (iI (x)))]) E dX6_cost_49 1 rfl rfl (by decide) rfl rfl ?_
            refine hv_goto E 14 dX6_cost_52 (by decide) ?_
            refine hv_sub (lv2 := [(3, .int (iI (j + 1))), (2, .int (iI (sm + (16 + (pB (mem (F x.toNat)) j))))), (0, .ref (ad 0)), (1, .int (iI (x)))]) [0, 1, 2, 3] rfl ?_
            exact ih (j + 1) _ (by omega) (by omega) (by omega) (by
                  rw [show (j + 1).toNat = j.toNat + 1 by omega]
                  simp only [cs]
                  rw [Int.toNat_of_nonneg g0, hs]
                  split <;> omega)
    refine hv_sub (lv2 := [(3, .int (iI (0))), (2, .int (iI (0))), (0, .ref (ad 0)), (1, .int (iI (x)))]) [0, 1, 2, 3] rfl ?_
    exact LP 17 0 0 (by omega) (by omega) (by omega) rfl
  · have c1 := of_decide_eq_false c1
    refine hv_bipush E dX6_cost_7 (by decide +kernel) rfl ?_
    exact hv_iret E dX6_cost_9 hr ⟨(by (repeat (first | rw [if_pos (by omega)] | rw [if_neg (by omega)])) <;> first | done | rfl), rfl⟩
