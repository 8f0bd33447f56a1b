theorem hm_neF {M : hm_M} {p q : Nat} {e : va_E} (h : M p = some e) (hq : M q = none) : p ≠ q := fun z => by rw [z, hq] at h; cases h
theorem hm_neE {M : hm_M} {p q : Nat} {e e2 : va_E} (h : M p = some e) (hq : M q = some e2) (hn : e ≠ e2) : p ≠ q := fun z => by rw [z, hq] at h; exact hn (Option.some.inj h).symm
theorem nAt.keep {K : Nat → ClassId} {M M2 : hm_M} {q wd : Nat} {f : Nat → Int32} (h : nAt K M q wd f) (h1 : M2 q = M q) (h2 : M2 wd = M wd) : nAt K M2 q wd f := ⟨by rw [h1]; exact h.1, by rw [h2]; exact h.2⟩
theorem tAt.keep {K : Nat → ClassId} {M M2 : hm_M} {q wd : Nat} {f : Nat → Int32} {L P : Int} (h : tAt K M q wd f L P) (h1 : M2 q = M q) (h2 : M2 wd = M wd) : tAt K M2 q wd f L P := ⟨by rw [h1]; exact h.1, by rw [h2]; exact h.2⟩
/-- what stands while the class is made: the object, its rows, tape and told -/
def ki (K : Nat → ClassId) (w M : hm_M) (a q1 q2 q3 q4 q5 q6 : Nat) (fa fc : Nat → Option Nat) : Prop :=
  M a = some (.inr (5, [.ref q1, .ref q2, .ref q3, .ref q4])) ∧ M q1 = some (.inl (K 2, 8, .inr (.inr (.inr (.inr fa))))) ∧ M q2 = some (.inl (K 3, 3, .inr (.inr (.inr (.inr fc))))) ∧ tAt K M q3 q5 (fun _ => 0) 0 0 ∧ nAt K M q4 q6 (fun _ => 0) ∧
  (∀ z, w z ≠ none → z ≠ a → M z = w z) ∧ (w q1 = none ∧ w q2 = none ∧ w q3 = none ∧ w q4 = none ∧ w q5 = none ∧ w q6 = none)
/-- a new cell is new for the start too -/
theorem ki_new {w M : hm_M} {a q : Nat} {e : va_E} (ha : M a = some e) (hf : ∀ z, w z ≠ none → z ≠ a → M z = w z) (hq : M q = none) : w q = none := by
  rcases Classical.em (w q = none) with h | h
  · exact h
  · exfalso
    have hne : q ≠ a := fun z => by rw [z, ha] at hq; cases hq
    rw [hf q h hne] at hq
    exact h hq
/-- a cell comes that was not there -/
theorem ki.new {K : Nat → ClassId} {w M : hm_M} {a q1 q2 q3 q4 q5 q6 : Nat} {fa fc : Nat → Option Nat} (h : ki K w M a q1 q2 q3 q4 q5 q6 fa fc) {q : Nat} (hq : M q = none) (e : va_E) : ki K w (hm_up M q e) a q1 q2 q3 q4 q5 q6 fa fc := by
  obtain ⟨h0, h1, h2, h3, h4, h5, h6⟩ := h
  have hw := ki_new h0 h5 hq
  exact ⟨by rw [hm_un (hm_neF h0 hq)]; exact h0, by rw [hm_un (hm_neF h1 hq)]; exact h1, by rw [hm_un (hm_neF h2 hq)]; exact h2, h3.keep (hm_un (hm_neF h3.1 hq)) (hm_un (hm_neF h3.2 hq)), h4.keep (hm_un (hm_neF h4.1 hq)) (hm_un (hm_neF h4.2 hq)), fun z z1 z2 => by rw [hm_un (fun y => z1 (by rw [y]; exact hw))]; exact h5 z z1 z2, h6⟩
/-- a cell that came later changes -/
theorem ki.chg {K : Nat → ClassId} {w M : hm_M} {a q1 q2 q3 q4 q5 q6 : Nat} {fa fc : Nat → Option Nat} (h : ki K w M a q1 q2 q3 q4 q5 q6 fa fc) {q : Nat} (e : va_E) (hw : w q = none) (n0 : a ≠ q) (n1 : q1 ≠ q) (n2 : q2 ≠ q) (n3 : q3 ≠ q) (n4 : q4 ≠ q) (n5 : q5 ≠ q) (n6 : q6 ≠ q) : ki K w (hm_up M q e) a q1 q2 q3 q4 q5 q6 fa fc := by
  obtain ⟨h0, h1, h2, h3, h4, h5, h6⟩ := h
  exact ⟨by rw [hm_un n0]; exact h0, by rw [hm_un n1]; exact h1, by rw [hm_un n2]; exact h2, h3.keep (hm_un n3) (hm_un n5), h4.keep (hm_un n4) (hm_un n6), fun z z1 z2 => by rw [hm_un (fun y => z1 (by rw [y]; exact hw))]; exact h5 z z1 z2, h6⟩
theorem ki.fa {K : Nat → ClassId} {w M : hm_M} {a q1 q2 q3 q4 q5 q6 : Nat} {fa fc : Nat → Option Nat} (h : ki K w M a q1 q2 q3 q4 q5 q6 fa fc) (fb : Nat → Option Nat) : ki K w (hm_up M q1 (.inl (K 2, 8, .inr (.inr (.inr (.inr fb)))))) a q1 q2 q3 q4 q5 q6 fb fc := by
  obtain ⟨h0, h1, h2, h3, h4, h5, h6⟩ := h
  exact ⟨by rw [hm_un (hm_neE h0 h1 (by simp))]; exact h0, hm_us, by rw [hm_un (hm_neE h2 h1 (by simp))]; exact h2, h3.keep (hm_un (hm_neE h3.1 h1 (by simp))) (hm_un (hm_neE h3.2 h1 (by simp))), h4.keep (hm_un (hm_neE h4.1 h1 (by simp))) (hm_un (hm_neE h4.2 h1 (by simp))), fun z z1 z2 => by rw [hm_un (fun y => z1 (by rw [y]; exact h6.1))]; exact h5 z z1 z2, h6⟩
theorem ki.fc {K : Nat → ClassId} {w M : hm_M} {a q1 q2 q3 q4 q5 q6 : Nat} {fa fc : Nat → Option Nat} (h : ki K w M a q1 q2 q3 q4 q5 q6 fa fc) (fb : Nat → Option Nat) : ki K w (hm_up M q2 (.inl (K 3, 3, .inr (.inr (.inr (.inr fb)))))) a q1 q2 q3 q4 q5 q6 fa fb := by
  obtain ⟨h0, h1, h2, h3, h4, h5, h6⟩ := h
  exact ⟨by rw [hm_un (hm_neE h0 h2 (by simp))]; exact h0, by rw [hm_un (hm_neE h1 h2 (by simp))]; exact h1, hm_us, h3.keep (hm_un (hm_neE h3.1 h2 (by simp))) (hm_un (hm_neE h3.2 h2 (by simp))), h4.keep (hm_un (hm_neE h4.1 h2 (by simp))) (hm_un (hm_neE h4.2 h2 (by simp))), fun z z1 z2 => by rw [hm_un (fun y => z1 (by rw [y]; exact h6.2.1))]; exact h5 z z1 z2, h6⟩
set_option maxHeartbeats 4000000 in
set_option maxRecDepth 100000 in
theorem c6_init (l : Launch) (D : va_G) (K : Nat → ClassId) {w : hm_M} {a : Nat} (ha : w a = some (.inr (5, [.null, .null, .null, .null])))  : hm_Cv l D K yX6_init cX6_init 2 3 [.ref (a)] w 25 1432 (fun w2 => ∃ ad : Nat → Nat, ad 0 = a ∧ kAt K w2 ad (fun _ _ => 0) (fun _ => 0) 0 0 (fun _ => 0) ∧ (∀ i, i < 28 → ad i = a ∨ w (ad i) = none) ∧ (∀ i, i < 28 → w2 (ad i) ≠ none) ∧ ∀ z, w z ≠ none → z ≠ a → w2 z = w z) := by
  refine hm_enterV (by decide) (Nat.le_of_ble_eq_true rfl) ?_
  intro p e s m args below meth c E hr hnm
  show hm_V p l e (hm_rm 3 25 1432) s m args below meth c D (hm_A w s.heap.size) 2 0 0 (MQ below (hm_Qv D w s.heap.size (fun w2 => ∃ ad : Nat → Nat, ad 0 = a ∧ kAt K w2 ad (fun _ _ => 0) (fun _ => 0) 0 0 (fun _ => 0) ∧ (∀ i, i < 28 → ad i = a ∨ w (ad i) = none) ∧ (∀ i, i < 28 → w2 (ad i) ≠ none) ∧ ∀ z, w z ≠ none → z ≠ a → w2 z = w z)) args s 25 1432 (hm_A w s.heap.size)) w 0 [(0, .ref (a))] []
  refine hv_aload_n E dX6_init_0 rfl 0 rfl rfl ?_
  refine hv_objInit E dX6_init_1 gL_X6_3 (Nat.le_of_ble_eq_true rfl) ⟨Nat.le_of_ble_eq_true rfl, Nat.le_of_ble_eq_true rfl⟩ rfl ?_
  refine hv_aload_n E dX6_init_4 rfl 0 rfl rfl ?_
  refine hv_bipush E dX6_init_5 (by decide +kernel) rfl ?_
  refine hv_anewN (z := 8) E dX6_init_7 gO_X6_9 (by omega) (by omega) (by decide) (by decide) rfl (fun q1 hqq1 hsq1 => ?_)
  show hm_V p l e (hm_rm 3 25 1432) s m args below meth c D (hm_A w s.heap.size) 2 1 8 (MQ below (hm_Qv D w s.heap.size (fun w2 => ∃ ad : Nat → Nat, ad 0 = a ∧ kAt K w2 ad (fun _ _ => 0) (fun _ => 0) 0 0 (fun _ => 0) ∧ (∀ i, i < 28 → ad i = a ∨ w (ad i) = none) ∧ (∀ i, i < 28 → w2 (ad i) ≠ none) ∧ ∀ z, w z ≠ none → z ≠ a → w2 z = w z)) args s 25 1432 (hm_A w s.heap.size)) (hm_up w q1 (.inl (K 2, 8, .inr (.inr (.inr (.inr (fun _ => none))))))) 10 [(0, .ref (a))] [.ref (q1), .ref (a)]
  have ha1 : (hm_up w q1 (.inl (K 2, 8, .inr (.inr (.inr (.inr (fun _ => none))))))) a = some (.inr (5, [.null, .null, .null, .null])) := by rw [hm_un (hm_neF ha hqq1)]; exact ha
  refine hv_putF (kf := 0) (ty0 := tyX6) E hnm dX6_init_10 (show vwCl[5]? = some (RX6, TX6, 4) from rfl) (by decide) gW_X6 tyX6_ok nmX6 gF_X6_11 rfl ha1 rfl rfl rfl (Nat.le_of_ble_eq_true rfl) rfl ?_
  show hm_V p l e (hm_rm 3 25 1432) s m args below meth c D (hm_A w s.heap.size) 2 1 8 (MQ below (hm_Qv D w s.heap.size (fun w2 => ∃ ad : Nat → Nat, ad 0 = a ∧ kAt K w2 ad (fun _ _ => 0) (fun _ => 0) 0 0 (fun _ => 0) ∧ (∀ i, i < 28 → ad i = a ∨ w (ad i) = none) ∧ (∀ i, i < 28 → w2 (ad i) ≠ none) ∧ ∀ z, w z ≠ none → z ≠ a → w2 z = w z)) args s 25 1432 (hm_A w s.heap.size)) (hm_up (hm_up w q1 (.inl (K 2, 8, .inr (.inr (.inr (.inr (fun _ => none))))))) a (.inr (5, [.ref q1, .null, .null, .null]))) 13 [(0, .ref (a))] []
  generalize hM1 : (hm_up (hm_up w q1 (.inl (K 2, 8, .inr (.inr (.inr (.inr (fun _ => none))))))) a (.inr (5, [.ref q1, .null, .null, .null]))) = M1
  have a1 : M1 a = some (.inr (5, [.ref q1, .null, .null, .null])) := by rw [← hM1]; exact hm_us
  have b1 : M1 q1 = some (.inl (K 2, 8, .inr (.inr (.inr (.inr (fun _ => none)))))) := by rw [← hM1, hm_un (Ne.symm (hm_neF ha hqq1)), hm_us]
  have f1 : ∀ z, w z ≠ none → z ≠ a → M1 z = w z := fun z z1 z2 => by rw [← hM1, hm_un z2, hm_un (fun y => z1 (by rw [y]; exact hqq1))]
  clear hM1 ha1
  refine hv_aload_n E dX6_init_13 rfl 0 rfl rfl ?_
  refine hv_iconst E dX6_init_14 rfl ?_
  refine hv_anewC (z := 3) E dX6_init_15 gO_X6_15 (by omega) (by omega) (by decide) (by decide) rfl (fun q2 hqq2 hsq2 => ?_)
  show hm_V p l e (hm_rm 3 25 1432) s m args below meth c D (hm_A w s.heap.size) 2 2 11 (MQ below (hm_Qv D w s.heap.size (fun w2 => ∃ ad : Nat → Nat, ad 0 = a ∧ kAt K w2 ad (fun _ _ => 0) (fun _ => 0) 0 0 (fun _ => 0) ∧ (∀ i, i < 28 → ad i = a ∨ w (ad i) = none) ∧ (∀ i, i < 28 → w2 (ad i) ≠ none) ∧ ∀ z, w z ≠ none → z ≠ a → w2 z = w z)) args s 25 1432 (hm_A w s.heap.size)) (hm_up M1 q2 (.inl (K 3, 3, .inr (.inr (.inr (.inr (fun _ => none))))))) 18 [(0, .ref (a))] [.ref (q2), .ref (a)]
  have w2 := ki_new a1 f1 hqq2
  have ha1 : (hm_up M1 q2 (.inl (K 3, 3, .inr (.inr (.inr (.inr (fun _ => none))))))) a = some (.inr (5, [.ref q1, .null, .null, .null])) := by rw [hm_un (hm_neF a1 hqq2)]; exact a1
  refine hv_putF (kf := 1) (ty0 := tyX6) E hnm dX6_init_18 (show vwCl[5]? = some (RX6, TX6, 4) from rfl) (by decide) gW_X6 tyX6_ok nmX6 gF_X6_17 rfl ha1 rfl rfl rfl (Nat.le_of_ble_eq_true rfl) rfl ?_
  show hm_V p l e (hm_rm 3 25 1432) s m args below meth c D (hm_A w s.heap.size) 2 2 11 (MQ below (hm_Qv D w s.heap.size (fun w2 => ∃ ad : Nat → Nat, ad 0 = a ∧ kAt K w2 ad (fun _ _ => 0) (fun _ => 0) 0 0 (fun _ => 0) ∧ (∀ i, i < 28 → ad i = a ∨ w (ad i) = none) ∧ (∀ i, i < 28 → w2 (ad i) ≠ none) ∧ ∀ z, w z ≠ none → z ≠ a → w2 z = w z)) args s 25 1432 (hm_A w s.heap.size)) (hm_up (hm_up M1 q2 (.inl (K 3, 3, .inr (.inr (.inr (.inr (fun _ => none))))))) a (.inr (5, [.ref q1, .ref q2, .null, .null]))) 21 [(0, .ref (a))] []
  generalize hM2 : (hm_up (hm_up M1 q2 (.inl (K 3, 3, .inr (.inr (.inr (.inr (fun _ => none))))))) a (.inr (5, [.ref q1, .ref q2, .null, .null]))) = M2
  have a2 : M2 a = some (.inr (5, [.ref q1, .ref q2, .null, .null])) := by rw [← hM2]; exact hm_us
  have b2 : M2 q1 = some (.inl (K 2, 8, .inr (.inr (.inr (.inr (fun _ => none)))))) := by rw [← hM2, hm_un (hm_neE b1 a1 (by simp)), hm_un (hm_neF b1 hqq2)]; exact b1
  have d2 : M2 q2 = some (.inl (K 3, 3, .inr (.inr (.inr (.inr (fun _ => none)))))) := by rw [← hM2, hm_un (Ne.symm (hm_neF a1 hqq2)), hm_us]
  have f2 : ∀ z, w z ≠ none → z ≠ a → M2 z = w z := fun z z1 z2 => by rw [← hM2, hm_un z2, hm_un (fun y => z1 (by rw [y]; exact w2))]; exact f1 z z1 z2
  clear hM2 ha1
  refine hv_aload_n E dX6_init_21 rfl 0 rfl rfl ?_
  refine hv_new (ty := tyX4) (fs := [.null, .int 0, .int 0]) E dX6_init_22 (show vwCl[3]? = some (RX4, TX4, 3) from rfl) gW_X4 tyX4_ok gO_X6_21 gT_X4 gZ_X4 (fun j hj => by rcases (show j = 0 ∨ j = 1 ∨ j = 2 by omega) with rfl | rfl | rfl <;> rfl) (by decide) (by decide) rfl (fun q3 hqq3 hsq3 => ?_)
  show hm_V p l e (hm_rm 3 25 1432) s m args below meth c D (hm_A w s.heap.size) 2 3 14 (MQ below (hm_Qv D w s.heap.size (fun w2 => ∃ ad : Nat → Nat, ad 0 = a ∧ kAt K w2 ad (fun _ _ => 0) (fun _ => 0) 0 0 (fun _ => 0) ∧ (∀ i, i < 28 → ad i = a ∨ w (ad i) = none) ∧ (∀ i, i < 28 → w2 (ad i) ≠ none) ∧ ∀ z, w z ≠ none → z ≠ a → w2 z = w z)) args s 25 1432 (hm_A w s.heap.size)) (hm_up M2 q3 (.inr (3, [.null, .int 0, .int 0]))) 25 [(0, .ref (a))] [.ref (q3), .ref (a)]
  refine hv_dup E dX6_init_25 rfl rfl ?_
  have w3 := ki_new a2 f2 hqq3
  refine hv_callIN (na := 0) (As := []) (st := [.ref (q3), .ref (a)]) E (c4_init l D K hm_us) dX6_init_26 gN_X6_23 rfl gI_X4_init gC_X4_init gZ_X4 (by decide +kernel) rfl ⟨Nat.le_of_ble_eq_true rfl, Nat.le_of_ble_eq_true rfl⟩ (Nat.le_of_ble_eq_true rfl) ⟨by decide, by decide⟩ rfl rfl (fun M3 hp => ?_)
  obtain ⟨q5, hq5, e3⟩ := hp
  have hq5b : M2 q5 = none := by rw [hm_un (fun y => by rw [y, hm_us] at hq5; cases hq5)] at hq5; exact hq5
  have w5 := ki_new a2 f2 hq5b
  have n35 : q3 ≠ q5 := fun y => by rw [← y, hm_us] at hq5; cases hq5
  have t3 : tAt K M3 q3 q5 (fun _ => 0) 0 0 := by rw [e3]; exact tAt_tM n35
  have o3 : ∀ z, z ≠ q3 → z ≠ q5 → M3 z = M2 z := fun z z1 z2 => by rw [e3, tM_other z1 z2, hm_un z1]
  have a3 : M3 a = some (.inr (5, [.ref q1, .ref q2, .null, .null])) := by rw [o3 a (hm_neF a2 hqq3) (hm_neF a2 hq5b)]; exact a2
  have b3 : M3 q1 = some (.inl (K 2, 8, .inr (.inr (.inr (.inr (fun _ => none)))))) := by rw [o3 q1 (hm_neF b2 hqq3) (hm_neF b2 hq5b)]; exact b2
  have d3 : M3 q2 = some (.inl (K 3, 3, .inr (.inr (.inr (.inr (fun _ => none)))))) := by rw [o3 q2 (hm_neF d2 hqq3) (hm_neF d2 hq5b)]; exact d2
  have f3 : ∀ z, w z ≠ none → z ≠ a → M3 z = w z := fun z z1 z2 => by rw [o3 z (fun y => z1 (by rw [y]; exact w3)) (fun y => z1 (by rw [y]; exact w5))]; exact f2 z z1 z2
  clear e3 o3
  show hm_V p l e (hm_rm 3 25 1432) s m args below meth c D (hm_A w s.heap.size) 2 4 271 (MQ below (hm_Qv D w s.heap.size (fun w2 => ∃ ad : Nat → Nat, ad 0 = a ∧ kAt K w2 ad (fun _ _ => 0) (fun _ => 0) 0 0 (fun _ => 0) ∧ (∀ i, i < 28 → ad i = a ∨ w (ad i) = none) ∧ (∀ i, i < 28 → w2 (ad i) ≠ none) ∧ ∀ z, w z ≠ none → z ≠ a → w2 z = w z)) args s 25 1432 (hm_A w s.heap.size)) M3 29 [(0, .ref (a))] [.ref (q3), .ref (a)]
  refine hv_putF (kf := 2) (ty0 := tyX6) E hnm dX6_init_29 (show vwCl[5]? = some (RX6, TX6, 4) from rfl) (by decide) gW_X6 tyX6_ok nmX6 gF_X6_24 rfl a3 rfl rfl rfl (Nat.le_of_ble_eq_true rfl) rfl ?_
  show hm_V p l e (hm_rm 3 25 1432) s m args below meth c D (hm_A w s.heap.size) 2 4 271 (MQ below (hm_Qv D w s.heap.size (fun w2 => ∃ ad : Nat → Nat, ad 0 = a ∧ kAt K w2 ad (fun _ _ => 0) (fun _ => 0) 0 0 (fun _ => 0) ∧ (∀ i, i < 28 → ad i = a ∨ w (ad i) = none) ∧ (∀ i, i < 28 → w2 (ad i) ≠ none) ∧ ∀ z, w z ≠ none → z ≠ a → w2 z = w z)) args s 25 1432 (hm_A w s.heap.size)) (hm_up M3 a (.inr (5, [.ref q1, .ref q2, .ref q3, .null]))) 32 [(0, .ref (a))] []
  generalize hM4 : (hm_up M3 a (.inr (5, [.ref q1, .ref q2, .ref q3, .null]))) = M4
  have a4 : M4 a = some (.inr (5, [.ref q1, .ref q2, .ref q3, .null])) := by rw [← hM4]; exact hm_us
  have b4 : M4 q1 = some (.inl (K 2, 8, .inr (.inr (.inr (.inr (fun _ => none)))))) := by rw [← hM4, hm_un (hm_neE b3 a3 (by simp))]; exact b3
  have d4 : M4 q2 = some (.inl (K 3, 3, .inr (.inr (.inr (.inr (fun _ => none)))))) := by rw [← hM4, hm_un (hm_neE d3 a3 (by simp))]; exact d3
  have t4 : tAt K M4 q3 q5 (fun _ => 0) 0 0 := t3.keep (by rw [← hM4, hm_un (hm_neE t3.1 a3 (by simp))]) (by rw [← hM4, hm_un (hm_neE t3.2 a3 (by simp))])
  have f4 : ∀ z, w z ≠ none → z ≠ a → M4 z = w z := fun z z1 z2 => by rw [← hM4, hm_un z2]; exact f3 z z1 z2
  clear hM4
  refine hv_aload_n E dX6_init_32 rfl 0 rfl rfl ?_
  refine hv_new (ty := tyX2) (fs := [.null]) E dX6_init_33 (show vwCl[1]? = some (RX2, TX2, 1) from rfl) gW_X2 tyX2_ok gO_X6_9 gT_X2 gZ_X2 (fun j hj => by rcases (show j = 0 by omega) with rfl; rfl) (by decide) (by decide) rfl (fun q4 hqq4 hsq4 => ?_)
  show hm_V p l e (hm_rm 3 25 1432) s m args below meth c D (hm_A w s.heap.size) 2 5 272 (MQ below (hm_Qv D w s.heap.size (fun w2 => ∃ ad : Nat → Nat, ad 0 = a ∧ kAt K w2 ad (fun _ _ => 0) (fun _ => 0) 0 0 (fun _ => 0) ∧ (∀ i, i < 28 → ad i = a ∨ w (ad i) = none) ∧ (∀ i, i < 28 → w2 (ad i) ≠ none) ∧ ∀ z, w z ≠ none → z ≠ a → w2 z = w z)) args s 25 1432 (hm_A w s.heap.size)) (hm_up M4 q4 (.inr (1, [.null]))) 36 [(0, .ref (a))] [.ref (q4), .ref (a)]
  refine hv_dup E dX6_init_36 rfl rfl ?_
  have w4 := ki_new a4 f4 hqq4
  refine hv_callIN (na := 0) (As := []) (st := [.ref (q4), .ref (a)]) E (c2_init l D K hm_us) dX6_init_37 gN_X6_28 rfl gI_X2_init gC_X2_init gZ_X2 (by decide +kernel) rfl ⟨Nat.le_of_ble_eq_true rfl, Nat.le_of_ble_eq_true rfl⟩ (Nat.le_of_ble_eq_true rfl) ⟨by decide, by decide⟩ rfl rfl (fun M5 hp => ?_)
  obtain ⟨q6, hq6, e5⟩ := hp
  have n46 : q4 ≠ q6 := fun y => by rw [← y, hm_us] at hq6; cases hq6
  have hq6b : M4 q6 = none := by rw [hm_un (Ne.symm n46)] at hq6; exact hq6
  have w6 := ki_new a4 f4 hq6b
  have o5 : ∀ z, z ≠ q4 → z ≠ q6 → M5 z = M4 z := fun z z1 z2 => by rw [e5, hm_un z1, hm_un z2, hm_un z1]
  have n5 : nAt K M5 q4 q6 (fun _ => 0) := ⟨by rw [e5]; exact hm_us, by rw [e5, hm_un (Ne.symm n46), hm_us]⟩
  have a5 : M5 a = some (.inr (5, [.ref q1, .ref q2, .ref q3, .null])) := by rw [o5 a (hm_neF a4 hqq4) (hm_neF a4 hq6b)]; exact a4
  have b5 : M5 q1 = some (.inl (K 2, 8, .inr (.inr (.inr (.inr (fun _ => none)))))) := by rw [o5 q1 (hm_neF b4 hqq4) (hm_neF b4 hq6b)]; exact b4
  have d5 : M5 q2 = some (.inl (K 3, 3, .inr (.inr (.inr (.inr (fun _ => none)))))) := by rw [o5 q2 (hm_neF d4 hqq4) (hm_neF d4 hq6b)]; exact d4
  have t5 : tAt K M5 q3 q5 (fun _ => 0) 0 0 := t4.keep (o5 q3 (hm_neF t4.1 hqq4) (hm_neF t4.1 hq6b)) (o5 q5 (hm_neF t4.2 hqq4) (hm_neF t4.2 hq6b))
  have f5 : ∀ z, w z ≠ none → z ≠ a → M5 z = w z := fun z z1 z2 => by rw [o5 z (fun y => z1 (by rw [y]; exact w4)) (fun y => z1 (by rw [y]; exact w6))]; exact f4 z z1 z2
  clear e5 o5
  show hm_V p l e (hm_rm 3 25 1432) s m args below meth c D (hm_A w s.heap.size) 2 6 400 (MQ below (hm_Qv D w s.heap.size (fun w2 => ∃ ad : Nat → Nat, ad 0 = a ∧ kAt K w2 ad (fun _ _ => 0) (fun _ => 0) 0 0 (fun _ => 0) ∧ (∀ i, i < 28 → ad i = a ∨ w (ad i) = none) ∧ (∀ i, i < 28 → w2 (ad i) ≠ none) ∧ ∀ z, w z ≠ none → z ≠ a → w2 z = w z)) args s 25 1432 (hm_A w s.heap.size)) M5 40 [(0, .ref (a))] [.ref (q4), .ref (a)]
  refine hv_putF (kf := 3) (ty0 := tyX6) E hnm dX6_init_40 (show vwCl[5]? = some (RX6, TX6, 4) from rfl) (by decide) gW_X6 tyX6_ok nmX6 gF_X6_29 rfl a5 rfl rfl rfl (Nat.le_of_ble_eq_true rfl) rfl ?_
  show hm_V p l e (hm_rm 3 25 1432) s m args below meth c D (hm_A w s.heap.size) 2 6 400 (MQ below (hm_Qv D w s.heap.size (fun w2 => ∃ ad : Nat → Nat, ad 0 = a ∧ kAt K w2 ad (fun _ _ => 0) (fun _ => 0) 0 0 (fun _ => 0) ∧ (∀ i, i < 28 → ad i = a ∨ w (ad i) = none) ∧ (∀ i, i < 28 → w2 (ad i) ≠ none) ∧ ∀ z, w z ≠ none → z ≠ a → w2 z = w z)) args s 25 1432 (hm_A w s.heap.size)) (hm_up M5 a (.inr (5, [.ref q1, .ref q2, .ref q3, .ref q4]))) 43 [(0, .ref (a))] []
  generalize hM6 : (hm_up M5 a (.inr (5, [.ref q1, .ref q2, .ref q3, .ref q4]))) = M6
  have k6 : ki K w M6 a q1 q2 q3 q4 q5 q6 (fun _ => none) (fun _ => none) := ⟨by rw [← hM6]; exact hm_us, by rw [← hM6, hm_un (hm_neE b5 a5 (by simp))]; exact b5, by rw [← hM6, hm_un (hm_neE d5 a5 (by simp))]; exact d5, t5.keep (by rw [← hM6, hm_un (hm_neE t5.1 a5 (by simp))]) (by rw [← hM6, hm_un (hm_neE t5.2 a5 (by simp))]), n5.keep (by rw [← hM6, hm_un (hm_neE n5.1 a5 (by simp))]) (by rw [← hM6, hm_un (hm_neE n5.2 a5 (by simp))]), fun z z1 z2 => by rw [← hM6, hm_un z2]; exact f5 z z1 z2, ⟨hqq1, w2, w3, w4, w5, w6⟩⟩
  clear hM6
  refine hv_iconst E dX6_init_43 rfl ?_
  refine hv_istore_n (lv2 := [(1, .int (iI (0))), (0, .ref (a))]) E dX6_init_44 rfl (by decide) rfl rfl ?_
  have LP : ∀ (k : Nat) (j : Int) (M : hm_M) (na wa : Nat → Nat) (fa : Nat → Option Nat), (8 - j < (k : Int)) → (0 ≤ j) → (j ≤ 8) → (ki K w M a q1 q2 q3 q4 q5 q6 fa (fun _ => none)) → (∀ i, i < j.toNat → nAt K M (na i) (wa i) (fun _ => 0) ∧ wa i ≠ q6 ∧ w (na i) = none ∧ w (wa i) = none ∧ fa i = some (na i)) → (∀ i i2, i < j.toNat → i2 < j.toNat → wa i = wa i2 → i = i2) → hm_V p l e (hm_rm 3 25 1432) s m args below meth c D (hm_A w s.heap.size) 2 (6 + 2 * j.toNat) (400 + 129 * j.toNat) (MQ below (hm_Qv D w s.heap.size (fun w2 => ∃ ad : Nat → Nat, ad 0 = a ∧ kAt K w2 ad (fun _ _ => 0) (fun _ => 0) 0 0 (fun _ => 0) ∧ (∀ i, i < 28 → ad i = a ∨ w (ad i) = none) ∧ (∀ i, i < 28 → w2 (ad i) ≠ none) ∧ ∀ z, w z ≠ none → z ≠ a → w2 z = w z)) args s 25 1432 (hm_A w s.heap.size)) M 45 [(1, .int (iI (j))), (0, .ref (a))] [] := by
    intro k
    induction k with
    | zero =>
      intro j M na wa fa hk g0 g1 h6 hn hi
      exact absurd hk (by omega)
    | succ k ih =>
      intro j M na wa fa hk g0 g1 h6 hn hi
      refine hv_iload_n E dX6_init_45 rfl 0 rfl rfl ?_
      refine hv_bipush E dX6_init_46 (by decide +kernel) rfl ?_
      refine hv_icmp_ge E 70 dX6_init_48 (by decide) ⟨by omega, by omega⟩ ⟨by omega, by omega⟩ rfl (fun c1 => ?_) (fun c1 => ?_)
      · have ej : j = 8 := by omega
        subst ej
        refine hv_widen (k := 22) (n := 1432) (by show _ + 2 * 8 ≤ _; omega) (by show _ + 129 * 8 ≤ _; omega) ?_
        refine hv_aload_n E dX6_init_70 rfl 1 rfl rfl ?_
        refine hv_get (kf := 1) E dX6_init_71 (show vwCl[5]? = some (RX6, TX6, 4) from rfl) (by decide) gW_X6 gF_X6_17 rfl h6.1 rfl rfl ?_
        refine hv_iconst E dX6_init_74 rfl ?_
        refine hv_new (ty := tyX5) (fs := []) E dX6_init_75 (show vwCl[4]? = some (RX5, TX5, 0) from rfl) gW_X5 tyX5_ok gO_X6_33 gT_X5 gZ_X5 (fun j hj => by omega) (by decide) (by decide) rfl (fun r0 hqr0 hsr0 => ?_)
        show hm_V p l e (hm_rm 3 25 1432) s m args below meth c D (hm_A w s.heap.size) 2 23 1432 (MQ below (hm_Qv D w s.heap.size (fun w2 => ∃ ad : Nat → Nat, ad 0 = a ∧ kAt K w2 ad (fun _ _ => 0) (fun _ => 0) 0 0 (fun _ => 0) ∧ (∀ i, i < 28 → ad i = a ∨ w (ad i) = none) ∧ (∀ i, i < 28 → w2 (ad i) ≠ none) ∧ ∀ z, w z ≠ none → z ≠ a → w2 z = w z)) args s 25 1432 (hm_A w s.heap.size)) (hm_up M r0 (.inr (4, []))) 78 [(1, .int (iI (8))), (0, .ref (a))] [.ref (r0), .int (iI (0)), .ref (q2)]
        refine hv_dup E dX6_init_78 rfl rfl ?_
        have v0 := h6.new hqr0 (.inr (4, []))
        have wr0 := ki_new h6.1 h6.2.2.2.2.2.1 hqr0
        refine hv_callIN (na := 0) (As := []) (st := [.ref (r0), .int (iI (0)), .ref (q2)]) E (c5_init l D K) dX6_init_79 gN_X6_35 rfl gI_X5_init gC_X5_init gZ_X5 (by decide +kernel) rfl ⟨Nat.le_of_ble_eq_true rfl, Nat.le_of_ble_eq_true rfl⟩ (Nat.le_of_ble_eq_true rfl) ⟨by decide, by decide⟩ rfl rfl (fun w9 hp => ?_)
        rw [hp]
        show hm_V p l e (hm_rm 3 25 1432) s m args below meth c D (hm_A w s.heap.size) 2 23 1432 (MQ below (hm_Qv D w s.heap.size (fun w2 => ∃ ad : Nat → Nat, ad 0 = a ∧ kAt K w2 ad (fun _ _ => 0) (fun _ => 0) 0 0 (fun _ => 0) ∧ (∀ i, i < 28 → ad i = a ∨ w (ad i) = none) ∧ (∀ i, i < 28 → w2 (ad i) ≠ none) ∧ ∀ z, w z ≠ none → z ≠ a → w2 z = w z)) args s 25 1432 (hm_A w s.heap.size)) (hm_up M r0 (.inr (4, []))) 82 [(1, .int (iI (8))), (0, .ref (a))] [.ref (r0), .int (iI (0)), .ref (q2)]
        refine hv_aastC (r := (RX5, TX5, 0)) E dX6_init_82 v0.2.2.1 hm_us rfl (by decide) (by omega) (by decide) (by decide) rfl ?_
        show hm_V p l e (hm_rm 3 25 1432) s m args below meth c D (hm_A w s.heap.size) 2 23 1432 (MQ below (hm_Qv D w s.heap.size (fun w2 => ∃ ad : Nat → Nat, ad 0 = a ∧ kAt K w2 ad (fun _ _ => 0) (fun _ => 0) 0 0 (fun _ => 0) ∧ (∀ i, i < 28 → ad i = a ∨ w (ad i) = none) ∧ (∀ i, i < 28 → w2 (ad i) ≠ none) ∧ ∀ z, w z ≠ none → z ≠ a → w2 z = w z)) args s 25 1432 (hm_A w s.heap.size)) (hm_up (hm_up M r0 (.inr (4, []))) q2 (.inl (K 3, 3, .inr (.inr (.inr (.inr (va_up ((fun _ => none)) (0 : Int).toNat (some r0)))))))) 83 [(1, .int (iI (8))), (0, .ref (a))] []
        have u0 := v0.fc (va_up ((fun _ => none)) (0 : Int).toNat (some r0))
        have o0 : ∀ z e, M z = some e → z ≠ q2 → (hm_up (hm_up M r0 (.inr (4, []))) q2 (.inl (K 3, 3, .inr (.inr (.inr (.inr (va_up ((fun _ => none)) (0 : Int).toNat (some r0)))))))) z = some e := fun z e z1 z2 => by rw [hm_un z2, hm_un (hm_neF z1 hqr0)]; exact z1
        have x0 : (hm_up (hm_up M r0 (.inr (4, []))) q2 (.inl (K 3, 3, .inr (.inr (.inr (.inr (va_up ((fun _ => none)) (0 : Int).toNat (some r0)))))))) r0 = some (.inr (4, [])) := by rw [hm_un (hm_neE (M := hm_up M r0 (.inr (4, []))) hm_us v0.2.2.1 (by simp)), hm_us]
        generalize hN0 : (hm_up (hm_up M r0 (.inr (4, []))) q2 (.inl (K 3, 3, .inr (.inr (.inr (.inr (va_up ((fun _ => none)) (0 : Int).toNat (some r0)))))))) = N0 at o0 x0 u0 ⊢
        clear hN0
        refine hv_aload_n E dX6_init_83 rfl 1 rfl rfl ?_
        refine hv_get (kf := 1) E dX6_init_84 (show vwCl[5]? = some (RX6, TX6, 4) from rfl) (by decide) gW_X6 gF_X6_17 rfl u0.1 rfl rfl ?_
        refine hv_iconst E dX6_init_87 rfl ?_
        refine hv_new (ty := tyX1) (fs := []) E dX6_init_88 (show vwCl[0]? = some (RX1, TX1, 0) from rfl) gW_X1 tyX1_ok gO_X6_36 gT_X1 gZ_X1 (fun j hj => by omega) (by decide) (by decide) rfl (fun r1 hqr1 hsr1 => ?_)
        show hm_V p l e (hm_rm 3 25 1432) s m args below meth c D (hm_A w s.heap.size) 2 24 1432 (MQ below (hm_Qv D w s.heap.size (fun w2 => ∃ ad : Nat → Nat, ad 0 = a ∧ kAt K w2 ad (fun _ _ => 0) (fun _ => 0) 0 0 (fun _ => 0) ∧ (∀ i, i < 28 → ad i = a ∨ w (ad i) = none) ∧ (∀ i, i < 28 → w2 (ad i) ≠ none) ∧ ∀ z, w z ≠ none → z ≠ a → w2 z = w z)) args s 25 1432 (hm_A w s.heap.size)) (hm_up N0 r1 (.inr (0, []))) 91 [(1, .int (iI (8))), (0, .ref (a))] [.ref (r1), .int (iI (1)), .ref (q2)]
        refine hv_dup E dX6_init_91 rfl rfl ?_
        have v1 := u0.new hqr1 (.inr (0, []))
        have wr1 := ki_new u0.1 u0.2.2.2.2.2.1 hqr1
        refine hv_callIN (na := 0) (As := []) (st := [.ref (r1), .int (iI (1)), .ref (q2)]) E (c1_init l D K) dX6_init_92 gN_X6_38 rfl gI_X1_init gC_X1_init gZ_X1 (by decide +kernel) rfl ⟨Nat.le_of_ble_eq_true rfl, Nat.le_of_ble_eq_true rfl⟩ (Nat.le_of_ble_eq_true rfl) ⟨by decide, by decide⟩ rfl rfl (fun w9 hp => ?_)
        rw [hp]
        show hm_V p l e (hm_rm 3 25 1432) s m args below meth c D (hm_A w s.heap.size) 2 24 1432 (MQ below (hm_Qv D w s.heap.size (fun w2 => ∃ ad : Nat → Nat, ad 0 = a ∧ kAt K w2 ad (fun _ _ => 0) (fun _ => 0) 0 0 (fun _ => 0) ∧ (∀ i, i < 28 → ad i = a ∨ w (ad i) = none) ∧ (∀ i, i < 28 → w2 (ad i) ≠ none) ∧ ∀ z, w z ≠ none → z ≠ a → w2 z = w z)) args s 25 1432 (hm_A w s.heap.size)) (hm_up N0 r1 (.inr (0, []))) 95 [(1, .int (iI (8))), (0, .ref (a))] [.ref (r1), .int (iI (1)), .ref (q2)]
        refine hv_aastC (r := (RX1, TX1, 0)) E dX6_init_95 v1.2.2.1 hm_us rfl (by decide) (by omega) (by decide) (by decide) rfl ?_
        show hm_V p l e (hm_rm 3 25 1432) s m args below meth c D (hm_A w s.heap.size) 2 24 1432 (MQ below (hm_Qv D w s.heap.size (fun w2 => ∃ ad : Nat → Nat, ad 0 = a ∧ kAt K w2 ad (fun _ _ => 0) (fun _ => 0) 0 0 (fun _ => 0) ∧ (∀ i, i < 28 → ad i = a ∨ w (ad i) = none) ∧ (∀ i, i < 28 → w2 (ad i) ≠ none) ∧ ∀ z, w z ≠ none → z ≠ a → w2 z = w z)) args s 25 1432 (hm_A w s.heap.size)) (hm_up (hm_up N0 r1 (.inr (0, []))) q2 (.inl (K 3, 3, .inr (.inr (.inr (.inr (va_up (va_up ((fun _ => none)) (0 : Int).toNat (some r0)) (1 : Int).toNat (some r1)))))))) 96 [(1, .int (iI (8))), (0, .ref (a))] []
        have u1 := v1.fc (va_up (va_up ((fun _ => none)) (0 : Int).toNat (some r0)) (1 : Int).toNat (some r1))
        have o1 : ∀ z e, N0 z = some e → z ≠ q2 → (hm_up (hm_up N0 r1 (.inr (0, []))) q2 (.inl (K 3, 3, .inr (.inr (.inr (.inr (va_up (va_up ((fun _ => none)) (0 : Int).toNat (some r0)) (1 : Int).toNat (some r1)))))))) z = some e := fun z e z1 z2 => by rw [hm_un z2, hm_un (hm_neF z1 hqr1)]; exact z1
        have x1 : (hm_up (hm_up N0 r1 (.inr (0, []))) q2 (.inl (K 3, 3, .inr (.inr (.inr (.inr (va_up (va_up ((fun _ => none)) (0 : Int).toNat (some r0)) (1 : Int).toNat (some r1)))))))) r1 = some (.inr (0, [])) := by rw [hm_un (hm_neE (M := hm_up N0 r1 (.inr (0, []))) hm_us v1.2.2.1 (by simp)), hm_us]
        generalize hN1 : (hm_up (hm_up N0 r1 (.inr (0, []))) q2 (.inl (K 3, 3, .inr (.inr (.inr (.inr (va_up (va_up ((fun _ => none)) (0 : Int).toNat (some r0)) (1 : Int).toNat (some r1)))))))) = N1 at o1 x1 u1 ⊢
        clear hN1
        refine hv_aload_n E dX6_init_96 rfl 1 rfl rfl ?_
        refine hv_get (kf := 1) E dX6_init_97 (show vwCl[5]? = some (RX6, TX6, 4) from rfl) (by decide) gW_X6 gF_X6_17 rfl u1.1 rfl rfl ?_
        refine hv_iconst E dX6_init_100 rfl ?_
        refine hv_new (ty := tyX3) (fs := []) E dX6_init_101 (show vwCl[2]? = some (RX3, TX3, 0) from rfl) gW_X3 tyX3_ok gO_X6_39 gT_X3 gZ_X3 (fun j hj => by omega) (by decide) (by decide) rfl (fun r2 hqr2 hsr2 => ?_)
        show hm_V p l e (hm_rm 3 25 1432) s m args below meth c D (hm_A w s.heap.size) 2 25 1432 (MQ below (hm_Qv D w s.heap.size (fun w2 => ∃ ad : Nat → Nat, ad 0 = a ∧ kAt K w2 ad (fun _ _ => 0) (fun _ => 0) 0 0 (fun _ => 0) ∧ (∀ i, i < 28 → ad i = a ∨ w (ad i) = none) ∧ (∀ i, i < 28 → w2 (ad i) ≠ none) ∧ ∀ z, w z ≠ none → z ≠ a → w2 z = w z)) args s 25 1432 (hm_A w s.heap.size)) (hm_up N1 r2 (.inr (2, []))) 104 [(1, .int (iI (8))), (0, .ref (a))] [.ref (r2), .int (iI (2)), .ref (q2)]
        refine hv_dup E dX6_init_104 rfl rfl ?_
        have v2 := u1.new hqr2 (.inr (2, []))
        have wr2 := ki_new u1.1 u1.2.2.2.2.2.1 hqr2
        refine hv_callIN (na := 0) (As := []) (st := [.ref (r2), .int (iI (2)), .ref (q2)]) E (c3_init l D K) dX6_init_105 gN_X6_41 rfl gI_X3_init gC_X3_init gZ_X3 (by decide +kernel) rfl ⟨Nat.le_of_ble_eq_true rfl, Nat.le_of_ble_eq_true rfl⟩ (Nat.le_of_ble_eq_true rfl) ⟨by decide, by decide⟩ rfl rfl (fun w9 hp => ?_)
        rw [hp]
        show hm_V p l e (hm_rm 3 25 1432) s m args below meth c D (hm_A w s.heap.size) 2 25 1432 (MQ below (hm_Qv D w s.heap.size (fun w2 => ∃ ad : Nat → Nat, ad 0 = a ∧ kAt K w2 ad (fun _ _ => 0) (fun _ => 0) 0 0 (fun _ => 0) ∧ (∀ i, i < 28 → ad i = a ∨ w (ad i) = none) ∧ (∀ i, i < 28 → w2 (ad i) ≠ none) ∧ ∀ z, w z ≠ none → z ≠ a → w2 z = w z)) args s 25 1432 (hm_A w s.heap.size)) (hm_up N1 r2 (.inr (2, []))) 108 [(1, .int (iI (8))), (0, .ref (a))] [.ref (r2), .int (iI (2)), .ref (q2)]
        refine hv_aastC (r := (RX3, TX3, 0)) E dX6_init_108 v2.2.2.1 hm_us rfl (by decide) (by omega) (by decide) (by decide) rfl ?_
        show hm_V p l e (hm_rm 3 25 1432) s m args below meth c D (hm_A w s.heap.size) 2 25 1432 (MQ below (hm_Qv D w s.heap.size (fun w2 => ∃ ad : Nat → Nat, ad 0 = a ∧ kAt K w2 ad (fun _ _ => 0) (fun _ => 0) 0 0 (fun _ => 0) ∧ (∀ i, i < 28 → ad i = a ∨ w (ad i) = none) ∧ (∀ i, i < 28 → w2 (ad i) ≠ none) ∧ ∀ z, w z ≠ none → z ≠ a → w2 z = w z)) args s 25 1432 (hm_A w s.heap.size)) (hm_up (hm_up N1 r2 (.inr (2, []))) q2 (.inl (K 3, 3, .inr (.inr (.inr (.inr (va_up (va_up (va_up ((fun _ => none)) (0 : Int).toNat (some r0)) (1 : Int).toNat (some r1)) (2 : Int).toNat (some r2)))))))) 109 [(1, .int (iI (8))), (0, .ref (a))] []
        have u2 := v2.fc (va_up (va_up (va_up ((fun _ => none)) (0 : Int).toNat (some r0)) (1 : Int).toNat (some r1)) (2 : Int).toNat (some r2))
        have o2 : ∀ z e, N1 z = some e → z ≠ q2 → (hm_up (hm_up N1 r2 (.inr (2, []))) q2 (.inl (K 3, 3, .inr (.inr (.inr (.inr (va_up (va_up (va_up ((fun _ => none)) (0 : Int).toNat (some r0)) (1 : Int).toNat (some r1)) (2 : Int).toNat (some r2)))))))) z = some e := fun z e z1 z2 => by rw [hm_un z2, hm_un (hm_neF z1 hqr2)]; exact z1
        have x2 : (hm_up (hm_up N1 r2 (.inr (2, []))) q2 (.inl (K 3, 3, .inr (.inr (.inr (.inr (va_up (va_up (va_up ((fun _ => none)) (0 : Int).toNat (some r0)) (1 : Int).toNat (some r1)) (2 : Int).toNat (some r2)))))))) r2 = some (.inr (2, [])) := by rw [hm_un (hm_neE (M := hm_up N1 r2 (.inr (2, []))) hm_us v2.2.2.1 (by simp)), hm_us]
        generalize hN2 : (hm_up (hm_up N1 r2 (.inr (2, []))) q2 (.inl (K 3, 3, .inr (.inr (.inr (.inr (va_up (va_up (va_up ((fun _ => none)) (0 : Int).toNat (some r0)) (1 : Int).toNat (some r1)) (2 : Int).toNat (some r2)))))))) = N2 at o2 x2 u2 ⊢
        clear hN2
        have nn : ∀ i, i < 8 → nAt K N2 (na i) (wa i) (fun _ => 0) := fun i hi8 => by
          have z1 := (hn i hi8).1
          have s0 : na i ≠ q2 := hm_neE z1.1 h6.2.2.1 (by simp)
          have s1 : wa i ≠ q2 := hm_neE z1.2 h6.2.2.1 (by simp)
          exact ⟨o2 _ _ (o1 _ _ (o0 _ _ z1.1 s0) s0) s0, o2 _ _ (o1 _ _ (o0 _ _ z1.2 s1) s1) s1⟩
        have r0k : N2 r0 = some (.inr (4, [])) := by
          have s0 : r0 ≠ q2 := hm_neE x0 u0.2.2.1 (by simp)
          exact o2 _ _ (o1 _ _ x0 s0) s0
        have r1k : N2 r1 = some (.inr (0, [])) := by
          have s0 : r1 ≠ q2 := hm_neE x1 u1.2.2.1 (by simp)
          exact o2 _ _ x1 s0
        obtain ⟨ad, had⟩ : ∃ ad : Nat → Nat, ad = fun i => if i = 0 then a else if i = 1 then q1 else if i = 2 then q2 else if i = 3 then q3 else if i = 4 then q4 else if i = 5 then q5 else if i = 6 then q6 else if i = 7 then r0 else if i = 8 then r1 else if i = 9 then r2 else if i < 18 then na (i - 10) else if i < 20 then a else wa (i - 20) := ⟨_, rfl⟩
        have y0 : ad 0 = a := by rw [had]; rfl
        have y1 : ad 1 = q1 := by rw [had]; rfl
        have y2 : ad 2 = q2 := by rw [had]; rfl
        have y3 : ad 3 = q3 := by rw [had]; rfl
        have y4 : ad 4 = q4 := by rw [had]; rfl
        have y5 : ad 5 = q5 := by rw [had]; rfl
        have y6 : ad 6 = q6 := by rw [had]; rfl
        have y7 : ad 7 = r0 := by rw [had]; rfl
        have y8 : ad 8 = r1 := by rw [had]; rfl
        have y9 : ad 9 = r2 := by rw [had]; rfl
        have yn : ∀ i, i < 8 → ad (10 + i) = na i := fun i hi8 => by rw [had]; show (if 10 + i = 0 then _ else _) = _; (repeat (first | rw [if_neg (by omega)] | rw [if_pos (by omega)])) <;> (congr 1; omega)
        have yw : ∀ i, i < 8 → ad (20 + i) = wa i := fun i hi8 => by rw [had]; show (if 20 + i = 0 then _ else _) = _; (repeat (first | rw [if_neg (by omega)] | rw [if_pos (by omega)])) <;> (congr 1; omega)
        have ys : ∀ i, 18 ≤ i → i < 20 → ad i = a := fun i hi8 hi9 => by rw [had]; show (if i = 0 then _ else _) = _; repeat (first | rw [if_neg (by omega)] | rw [if_pos (by omega)])
        have yk : kAt K N2 ad (fun _ _ => 0) (fun _ => 0) 0 0 (fun _ => 0) := by
          unfold kAt
          rw [y0, y1, y2, y3, y4, y5, y6, y7, y8, y9]
          exact ⟨u2.1, ⟨fa, u2.2.1, fun i hi8 => by rw [yn i hi8]; exact (hn i hi8).2.2.2.2⟩, ⟨_, u2.2.2.1, by simp [va_up], by simp [va_up], by simp [va_up]⟩, ⟨r0k, r1k, x2⟩, u2.2.2.2.1, u2.2.2.2.2.1, fun i hi8 => by rw [yn i hi8, yw i hi8]; exact nn i hi8, fun i i2 z1 z2 z3 => by rw [yw i z1, yw i2 z2] at z3; exact hi i i2 z1 z2 z3, fun i z1 => by rw [yw i z1]; exact (hn i z1).2.1, by omega, by omega⟩
        have ya : ∀ i, i < 28 → ad i = a ∨ w (ad i) = none := fun i hi8 => by
          rcases (show i = 0 ∨ i = 1 ∨ i = 2 ∨ i = 3 ∨ i = 4 ∨ i = 5 ∨ i = 6 ∨ i = 7 ∨ i = 8 ∨ i = 9 ∨ (10 ≤ i ∧ i < 18) ∨ (18 ≤ i ∧ i < 20) ∨ 20 ≤ i by omega) with z | z | z | z | z | z | z | z | z | z | z | z | z
          · subst z; exact Or.inl y0
          · subst z; rw [y1]; exact Or.inr u2.2.2.2.2.2.2.1
          · subst z; rw [y2]; exact Or.inr u2.2.2.2.2.2.2.2.1
          · subst z; rw [y3]; exact Or.inr u2.2.2.2.2.2.2.2.2.1
          · subst z; rw [y4]; exact Or.inr u2.2.2.2.2.2.2.2.2.2.1
          · subst z; rw [y5]; exact Or.inr u2.2.2.2.2.2.2.2.2.2.2.1
          · subst z; rw [y6]; exact Or.inr u2.2.2.2.2.2.2.2.2.2.2.2
          · subst z; rw [y7]; exact Or.inr wr0
          · subst z; rw [y8]; exact Or.inr wr1
          · subst z; rw [y9]; exact Or.inr wr2
          · have z2 := yn (i - 10) (by omega); rw [show 10 + (i - 10) = i by omega] at z2; rw [z2]; exact Or.inr (hn (i - 10) (show i - 10 < 8 by omega)).2.2.1
          · exact Or.inl (ys i z.1 z.2)
          · have z2 := yw (i - 20) (by omega); rw [show 20 + (i - 20) = i by omega] at z2; rw [z2]; exact Or.inr (hn (i - 20) (show i - 20 < 8 by omega)).2.2.2.1
        have yb : ∀ i, i < 28 → N2 (ad i) ≠ none := fun i hi8 => by
          rcases (show i = 0 ∨ i = 1 ∨ i = 2 ∨ i = 3 ∨ i = 4 ∨ i = 5 ∨ i = 6 ∨ i = 7 ∨ i = 8 ∨ i = 9 ∨ (10 ≤ i ∧ i < 18) ∨ (18 ≤ i ∧ i < 20) ∨ 20 ≤ i by omega) with z | z | z | z | z | z | z | z | z | z | z | z | z
          · subst z; rw [y0, u2.1]; exact fun h => by cases h
          · subst z; rw [y1, u2.2.1]; exact fun h => by cases h
          · subst z; rw [y2, u2.2.2.1]; exact fun h => by cases h
          · subst z; rw [y3, u2.2.2.2.1.1]; exact fun h => by cases h
          · subst z; rw [y4, u2.2.2.2.2.1.1]; exact fun h => by cases h
          · subst z; rw [y5, u2.2.2.2.1.2]; exact fun h => by cases h
          · subst z; rw [y6, u2.2.2.2.2.1.2]; exact fun h => by cases h
          · subst z; rw [y7, r0k]; exact fun h => by cases h
          · subst z; rw [y8, r1k]; exact fun h => by cases h
          · subst z; rw [y9, x2]; exact fun h => by cases h
          · have z2 := yn (i - 10) (by omega); rw [show 10 + (i - 10) = i by omega] at z2; rw [z2, (nn (i - 10) (by omega)).1]; exact fun h => by cases h
          · rw [ys i z.1 z.2, u2.1]; exact fun h => by cases h
          · have z2 := yw (i - 20) (by omega); rw [show 20 + (i - 20) = i by omega] at z2; rw [z2, (nn (i - 20) (by omega)).2]; exact fun h => by cases h
        refine hv_widen (k := 25) (n := 1432) (by decide) (by decide) ?_
        exact hv_vret E dX6_init_109 hr ⟨ad, y0, yk, ya, yb, u2.2.2.2.2.2.1⟩
      · refine hv_aload_n E dX6_init_51 rfl 1 rfl rfl ?_
        refine hv_get (kf := 0) E dX6_init_52 (show vwCl[5]? = some (RX6, TX6, 4) from rfl) (by decide) gW_X6 gF_X6_11 rfl h6.1 rfl rfl ?_
        refine hv_iload_n E dX6_init_55 rfl 0 rfl rfl ?_
        refine hv_new (ty := tyX2) (fs := [.null]) E dX6_init_56 (show vwCl[1]? = some (RX2, TX2, 1) from rfl) gW_X2 tyX2_ok gO_X6_9 gT_X2 gZ_X2 (fun j hj => by rcases (show j = 0 by omega) with rfl; rfl) (by show _ ≤ 25; omega) (by show _ ≤ 1432; omega) rfl (fun p1 hqp1 hsp1 => ?_)
        show hm_V p l e (hm_rm 3 25 1432) s m args below meth c D (hm_A w s.heap.size) 2 ((6 + 2 * j.toNat) + 1) ((400 + 129 * j.toNat) + 1) (MQ below (hm_Qv D w s.heap.size (fun w2 => ∃ ad : Nat → Nat, ad 0 = a ∧ kAt K w2 ad (fun _ _ => 0) (fun _ => 0) 0 0 (fun _ => 0) ∧ (∀ i, i < 28 → ad i = a ∨ w (ad i) = none) ∧ (∀ i, i < 28 → w2 (ad i) ≠ none) ∧ ∀ z, w z ≠ none → z ≠ a → w2 z = w z)) args s 25 1432 (hm_A w s.heap.size)) (hm_up M p1 (.inr (1, [.null]))) 59 [(1, .int (iI (j))), (0, .ref (a))] [.ref (p1), .int (iI (j)), .ref (q1)]
        refine hv_dup E dX6_init_59 rfl rfl ?_
        have h7 := h6.new hqp1 (.inr (1, [.null]))
        have wp1 := ki_new h6.1 h6.2.2.2.2.2.1 hqp1
        refine hv_callIN (na := 0) (As := []) (st := [.ref (p1), .int (iI (j)), .ref (q1)]) E (c2_init l D K hm_us) dX6_init_60 gN_X6_28 rfl gI_X2_init gC_X2_init gZ_X2 (by decide +kernel) rfl ⟨Nat.le_of_ble_eq_true rfl, Nat.le_of_ble_eq_true rfl⟩ (Nat.le_of_ble_eq_true rfl) ⟨by show _ ≤ 25; omega, by show _ ≤ 1432; omega⟩ rfl rfl (fun M8 hp => ?_)
        obtain ⟨p2, hp2, e8⟩ := hp
        have n12 : p1 ≠ p2 := fun y => by rw [← y, hm_us] at hp2; cases hp2
        have hp2b : M p2 = none := by rw [hm_un (Ne.symm n12)] at hp2; exact hp2
        have wp2 := ki_new h6.1 h6.2.2.2.2.2.1 hp2b
        have o8 : ∀ z, z ≠ p1 → z ≠ p2 → M8 z = M z := fun z z1 z2 => by rw [e8, hm_un z1, hm_un z2, hm_un z1]
        have n8 : nAt K M8 p1 p2 (fun _ => 0) := ⟨by rw [e8]; exact hm_us, by rw [e8, hm_un (Ne.symm n12), hm_us]⟩
        have h8 : ki K w M8 a q1 q2 q3 q4 q5 q6 fa (fun _ => none) := by
          rw [e8]
          exact (h7.new hp2 _).chg _ wp1 (hm_neF h6.1 hqp1) (hm_neF h6.2.1 hqp1) (hm_neF h6.2.2.1 hqp1) (hm_neF h6.2.2.2.1.1 hqp1) (hm_neF h6.2.2.2.2.1.1 hqp1) (hm_neF h6.2.2.2.1.2 hqp1) (hm_neF h6.2.2.2.2.1.2 hqp1)
        clear e8
        show hm_V p l e (hm_rm 3 25 1432) s m args below meth c D (hm_A w s.heap.size) 2 (((6 + 2 * j.toNat) + 1) + 1) (((400 + 129 * j.toNat) + 1) + 128) (MQ below (hm_Qv D w s.heap.size (fun w2 => ∃ ad : Nat → Nat, ad 0 = a ∧ kAt K w2 ad (fun _ _ => 0) (fun _ => 0) 0 0 (fun _ => 0) ∧ (∀ i, i < 28 → ad i = a ∨ w (ad i) = none) ∧ (∀ i, i < 28 → w2 (ad i) ≠ none) ∧ ∀ z, w z ≠ none → z ≠ a → w2 z = w z)) args s 25 1432 (hm_A w s.heap.size)) M8 63 [(1, .int (iI (j))), (0, .ref (a))] [.ref (p1), .int (iI (j)), .ref (q1)]
        refine hv_aastN (r := (RX2, TX2, 1)) E dX6_init_63 h8.2.1 n8.1 rfl rfl g0 (show j < ((8 : Nat) : Int) by omega) (by decide) rfl ?_
        show hm_V p l e (hm_rm 3 25 1432) s m args below meth c D (hm_A w s.heap.size) 2 (((6 + 2 * j.toNat) + 1) + 1) (((400 + 129 * j.toNat) + 1) + 128) (MQ below (hm_Qv D w s.heap.size (fun w2 => ∃ ad : Nat → Nat, ad 0 = a ∧ kAt K w2 ad (fun _ _ => 0) (fun _ => 0) 0 0 (fun _ => 0) ∧ (∀ i, i < 28 → ad i = a ∨ w (ad i) = none) ∧ (∀ i, i < 28 → w2 (ad i) ≠ none) ∧ ∀ z, w z ≠ none → z ≠ a → w2 z = w z)) args s 25 1432 (hm_A w s.heap.size)) (hm_up M8 q1 (.inl (K 2, 8, .inr (.inr (.inr (.inr (va_up fa j.toNat (some p1)))))))) 64 [(1, .int (iI (j))), (0, .ref (a))] []
        have h9 := h8.fa (va_up fa j.toNat (some p1))
        refine hv_iinc (lv2 := [(1, .int (iI (j + 1))), (0, .ref (a))]) E dX6_init_64 0 rfl rfl (by decide) rfl rfl ?_
        refine hv_goto E 45 dX6_init_67 (by decide) ?_
        refine hv_widen (k := 6 + 2 * (j + 1).toNat) (n := 400 + 129 * (j + 1).toNat) (by omega) (by omega) ?_
        refine hv_sub (lv2 := [(1, .int (iI (j + 1))), (0, .ref (a))]) [0, 1] rfl ?_
        exact ih (j + 1) _ (va_up na j.toNat p1) (va_up wa j.toNat p2) _ (by omega) (by omega) (by omega) h9 (fun i hi2 => by
              by_cases hij : i = j.toNat
              · subst hij
                rw [va_up_self, va_up_self, va_up_self]
                exact ⟨n8.keep (hm_un (hm_neE n8.1 h8.2.1 (by simp))) (hm_un (hm_neE n8.2 h8.2.1 (by simp))), Ne.symm (hm_neF h6.2.2.2.2.1.2 hp2b), wp1, wp2, rfl⟩
              · rw [va_up_ne _ _ hij, va_up_ne _ _ hij, va_up_ne _ _ hij]
                obtain ⟨z1, z2, z3, z4, z5⟩ := hn i (by omega)
                have z6 : nAt K M8 (na i) (wa i) (fun _ => 0) := z1.keep (o8 _ (hm_neF z1.1 hqp1) (hm_neF z1.1 hp2b)) (o8 _ (hm_neF z1.2 hqp1) (hm_neF z1.2 hp2b))
                exact ⟨z6.keep (hm_un (hm_neE z6.1 h8.2.1 (by simp))) (hm_un (hm_neE z6.2 h8.2.1 (by simp))), z2, z3, z4, z5⟩) (fun i i2 hi1 hi2 hw => by
              by_cases x1 : i = j.toNat <;> by_cases x2 : i2 = j.toNat
              · omega
              · exfalso
                rw [x1, va_up_self, va_up_ne _ _ x2] at hw
                exact hm_neF (hn i2 (by omega)).1.2 hp2b hw.symm
              · exfalso
                rw [x2, va_up_self, va_up_ne _ _ x1] at hw
                exact hm_neF (hn i (by omega)).1.2 hp2b hw
              · rw [va_up_ne _ _ x1, va_up_ne _ _ x2] at hw
                exact hi i i2 (by omega) (by omega) hw)
  refine hv_sub (lv2 := [(1, .int (iI (0))), (0, .ref (a))]) [0, 1] rfl ?_
  exact LP 9 0 M6 (fun _ => 0) (fun _ => 0) _ (by omega) (by omega) (by omega) k6 (fun i hi2 => by simp at hi2) (fun i i2 hi1 => by simp at hi1)
