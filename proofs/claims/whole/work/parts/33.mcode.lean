theorem tl_0 (b : Int) (T : Nat → Bool) (td : Int) (ag : Bool) (c : List Bool) : tl 0 b (T, td, ag) c = (T, td + (c.length : Nat), ag) := by
  induction c generalizing td with
  | nil => simp [tl]
  | cons y c ih =>
    rw [tl_cons, show t1 0 b (T, td, ag) y = (T, td + 1, ag) from rfl, ih, List.length_cons, show td + 1 + ((c.length : Nat) : Int) = td + ((c.length + 1 : Nat) : Int) by omega]
theorem tl_1 (b : Int) (T : Nat → Bool) (td : Int) (h0 : 0 ≤ td) (ag : Bool) (c : List Bool) (i : Nat) : (tl 1 b (T, td, ag) c).1 i = if td ≤ (i : Int) ∧ (i : Int) < td + (c.length : Nat) then c.getD (i - td.toNat) false else T i := by
  induction c generalizing td T with
  | nil => rw [if_neg (by simp only [List.length_nil]; omega)]; rfl
  | cons y c ih =>
    rw [tl_cons, show t1 1 b (T, td, ag) y = (va_up T td.toNat y, td + 1, ag) from rfl, ih _ _ (by omega)]
    by_cases h1 : (i : Int) = td
    · rw [if_neg (by omega), if_pos (by simp only [List.length_cons]; omega), show i - td.toNat = 0 by omega, show i = td.toNat by omega]
      simp [va_up]
    · by_cases h2 : td + 1 ≤ (i : Int) ∧ (i : Int) < td + 1 + (c.length : Nat)
      · rw [if_pos h2, if_pos (by simp only [List.length_cons]; omega), show i - td.toNat = (i - (td + 1).toNat) + 1 by omega, List.getD_cons_succ]
      · rw [if_neg h2, if_neg (by simp only [List.length_cons]; omega)]
        unfold va_up
        rw [if_neg (by omega)]
theorem tl_2T (b : Int) (st : tS) (c : List Bool) : (tl 2 b st c).1 = st.1 := by
  induction c generalizing st with
  | nil => rfl
  | cons y c ih => rw [tl_cons, ih]; rfl
theorem tl_2 (b : Int) (T : Nat → Bool) (td : Int) (h0 : 0 ≤ td) (ag : Bool) (c : List Bool) : (tl 2 b (T, td, ag) c).2.2 = true ↔ ag = true ∧ ∀ i : Nat, i < c.length → td + (i : Int) < b ∧ T (td.toNat + i) = c.getD i false := by
  induction c generalizing td ag with
  | nil => exact ⟨fun h => ⟨h, fun i hi => absurd hi (by simp)⟩, fun h => h.1⟩
  | cons y c ih =>
    rw [tl_cons, show t1 2 b (T, td, ag) y = (T, td + 1, ag && (decide (td < b) && (T td.toNat == y))) from rfl, ih _ (by omega)]
    simp only [Bool.and_eq_true, decide_eq_true_eq, beq_iff_eq]
    constructor
    · rintro ⟨⟨h1, h2, h3⟩, h4⟩
      refine ⟨h1, fun i hi => ?_⟩
      cases i with
      | zero => exact ⟨by omega, h3⟩
      | succ i =>
        have h5 := h4 i (by simp only [List.length_cons] at hi; omega)
        refine ⟨by omega, ?_⟩
        rw [List.getD_cons_succ, ← h5.2]; congr 1; omega
    · rintro ⟨h1, h4⟩
      have h5 := h4 0 (by simp)
      refine ⟨⟨h1, by have := h5.1; omega, h5.2⟩, fun i hi => ?_⟩
      have h6 := h4 (i + 1) (by simp only [List.length_cons]; omega)
      refine ⟨by omega, ?_⟩
      rw [List.getD_cons_succ] at h6
      rw [← h6.2]; congr 1; omega
set_option maxHeartbeats 4000000 in
set_option maxRecDepth 100000 in
theorem c7_code (l : Launch) (D : va_G) (K : Nat → ClassId) {w : hm_M} {q ia ta : Nat} {I T : Nat → Bool} {b md td : Int} {ag : Bool} {pl : Int} (x kd how : Int) (hx0 : 0 ≤ x) (hx1 : x ≤ 8) (hk0 : 0 ≤ kd) (hk1 : kd ≤ 2) (hh : 0 ≤ how ∧ how ≤ 2) (hm : mAt K w q ia ta I T b md td ag pl) (hb0 : 0 ≤ b) (hb1 : b ≤ 8210)  : hm_Cv l D K yX7_code cX7_code 4 6 [.ref (q), .int (iI (x)), .int (iI (kd)), .int (iI (how))] w 0 0 (fun w2 => w2 = mM K w q ia ta I (tl how b (T, 0, true) (code_ (mS I x) kd)).1 b how (tl how b (T, 0, true) (code_ (mS I x) kd)).2.1 ((tl how b (T, 0, true) (code_ (mS I x) kd)).2.2 && decide ((tl how b (T, 0, true) (code_ (mS I x) kd)).2.1 = b)) pl) := by
  refine hm_enterV (by decide) (Nat.le_of_ble_eq_true rfl) ?_
  intro p e s m args below meth c E hr hnm
  show hm_V p l e (hm_rm 6 0 0) s m args below meth c D (hm_A w s.heap.size) 4 0 0 (MQ below (hm_Qv D w s.heap.size (fun w2 => w2 = mM K w q ia ta I (tl how b (T, 0, true) (code_ (mS I x) kd)).1 b how (tl how b (T, 0, true) (code_ (mS I x) kd)).2.1 ((tl how b (T, 0, true) (code_ (mS I x) kd)).2.2 && decide ((tl how b (T, 0, true) (code_ (mS I x) kd)).2.1 = b)) pl)) args s 0 0 (hm_A w s.heap.size)) w 0 [(0, .ref (q)), (1, .int (iI (x))), (2, .int (iI (kd))), (3, .int (iI (how)))] []
  refine hv_mem (show w = mM K w q ia ta I T b md td ag pl from mM_id hm) ?_
  have hM := mAt_mM (K := K) (w := w) (I := I) (T := T) (b := b) (md := md) (td := td) (ag := ag) (pl := pl) hm.n1 hm.n2 hm.n3
  refine hv_aload_n E dX7_code_0 rfl 0 rfl rfl ?_
  refine hv_iload_n E dX7_code_1 rfl 3 rfl rfl ?_
  refine hv_put (kf := 3) (ty0 := tyX7) E dX7_code_2 (show vwCl[6]? = some (RX7, TX7, 7) from rfl) (by decide) gW_X7 tyX7_ok nmX7 gF_X7_59 rfl hM.1 rfl rfl rfl (Nat.le_of_ble_eq_true rfl) rfl ?_
  show hm_V p l e (hm_rm 6 0 0) s m args below meth c D (hm_A w s.heap.size) 4 0 0 (MQ below (hm_Qv D w s.heap.size (fun w2 => w2 = mM K w q ia ta I (tl how b (T, 0, true) (code_ (mS I x) kd)).1 b how (tl how b (T, 0, true) (code_ (mS I x) kd)).2.1 ((tl how b (T, 0, true) (code_ (mS I x) kd)).2.2 && decide ((tl how b (T, 0, true) (code_ (mS I x) kd)).2.1 = b)) pl)) args s 0 0 (hm_A w s.heap.size)) (hm_up (mM K w q ia ta I T b md td ag pl) q (.inr (6, [.ref ia, .ref ta, .int (iI (b)), .int (iI (how)), .int (iI (td)), .int (bI (ag)), .int (iI (pl))]))) 5 [(0, .ref (q)), (1, .int (iI (x))), (2, .int (iI (kd))), (3, .int (iI (how)))] []
  refine hv_mem (show hm_up (mM K w q ia ta I T b md td ag pl) q (.inr (6, [.ref ia, .ref ta, .int (iI (b)), .int (iI (how)), .int (iI (td)), .int (bI (ag)), .int (iI (pl))])) = mM K w q ia ta I T b how td ag pl from mM_O) ?_
  have hM := mAt_mM (K := K) (w := w) (I := I) (T := T) (b := b) (md := how) (td := td) (ag := ag) (pl := pl) hm.n1 hm.n2 hm.n3
  refine hv_aload_n E dX7_code_5 rfl 0 rfl rfl ?_
  refine hv_iconst E dX7_code_6 rfl ?_
  refine hv_put (kf := 4) (ty0 := tyX7) E dX7_code_7 (show vwCl[6]? = some (RX7, TX7, 7) from rfl) (by decide) gW_X7 tyX7_ok nmX7 gF_X7_63 rfl hM.1 rfl rfl rfl (Nat.le_of_ble_eq_true rfl) rfl ?_
  show hm_V p l e (hm_rm 6 0 0) s m args below meth c D (hm_A w s.heap.size) 4 0 0 (MQ below (hm_Qv D w s.heap.size (fun w2 => w2 = mM K w q ia ta I (tl how b (T, 0, true) (code_ (mS I x) kd)).1 b how (tl how b (T, 0, true) (code_ (mS I x) kd)).2.1 ((tl how b (T, 0, true) (code_ (mS I x) kd)).2.2 && decide ((tl how b (T, 0, true) (code_ (mS I x) kd)).2.1 = b)) pl)) args s 0 0 (hm_A w s.heap.size)) (hm_up (mM K w q ia ta I T b how td ag pl) q (.inr (6, [.ref ia, .ref ta, .int (iI (b)), .int (iI (how)), .int (iI (0)), .int (bI (ag)), .int (iI (pl))]))) 10 [(0, .ref (q)), (1, .int (iI (x))), (2, .int (iI (kd))), (3, .int (iI (how)))] []
  refine hv_mem (show hm_up (mM K w q ia ta I T b how td ag pl) q (.inr (6, [.ref ia, .ref ta, .int (iI (b)), .int (iI (how)), .int (iI (0)), .int (bI (ag)), .int (iI (pl))])) = mM K w q ia ta I T b how 0 ag pl from mM_O) ?_
  have hM := mAt_mM (K := K) (w := w) (I := I) (T := T) (b := b) (md := how) (td := 0) (ag := ag) (pl := pl) hm.n1 hm.n2 hm.n3
  refine hv_aload_n E dX7_code_10 rfl 0 rfl rfl ?_
  refine hv_iconst E dX7_code_11 rfl ?_
  refine hv_topi (show iI (1) = bI (true) from rfl) ?_
  refine hv_put (kf := 5) (ty0 := tyX7) E dX7_code_12 (show vwCl[6]? = some (RX7, TX7, 7) from rfl) (by decide) gW_X7 tyX7_ok nmX7 gF_X7_66 rfl hM.1 rfl (bI_narrow _) (bI_fits _) (Nat.le_of_ble_eq_true rfl) rfl ?_
  show hm_V p l e (hm_rm 6 0 0) s m args below meth c D (hm_A w s.heap.size) 4 0 0 (MQ below (hm_Qv D w s.heap.size (fun w2 => w2 = mM K w q ia ta I (tl how b (T, 0, true) (code_ (mS I x) kd)).1 b how (tl how b (T, 0, true) (code_ (mS I x) kd)).2.1 ((tl how b (T, 0, true) (code_ (mS I x) kd)).2.2 && decide ((tl how b (T, 0, true) (code_ (mS I x) kd)).2.1 = b)) pl)) args s 0 0 (hm_A w s.heap.size)) (hm_up (mM K w q ia ta I T b how 0 ag pl) q (.inr (6, [.ref ia, .ref ta, .int (iI (b)), .int (iI (how)), .int (iI (0)), .int (bI (true)), .int (iI (pl))]))) 15 [(0, .ref (q)), (1, .int (iI (x))), (2, .int (iI (kd))), (3, .int (iI (how)))] []
  refine hv_mem (show hm_up (mM K w q ia ta I T b how 0 ag pl) q (.inr (6, [.ref ia, .ref ta, .int (iI (b)), .int (iI (how)), .int (iI (0)), .int (bI (true)), .int (iI (pl))])) = mM K w q ia ta I T b how 0 true pl from mM_O) ?_
  have hM := mAt_mM (K := K) (w := w) (I := I) (T := T) (b := b) (md := how) (td := 0) (ag := true) (pl := pl) hm.n1 hm.n2 hm.n3
  refine hv_iload_n E dX7_code_15 rfl 2 rfl rfl ?_
  refine hv_if_ne E 27 dX7_code_16 (by decide) ⟨by omega, by omega⟩ rfl (fun c1 => ?_) (fun c1 => ?_)
  · refine hv_iload_n E dX7_code_27 rfl 2 rfl rfl ?_
    refine hv_iconst E dX7_code_28 rfl ?_
    refine hv_icmp_ne E 40 dX7_code_29 (by decide) ⟨by omega, by omega⟩ ⟨by omega, by omega⟩ rfl (fun c2 => ?_) (fun c2 => ?_)
    · refine hv_aload_n E dX7_code_40 rfl 0 rfl rfl ?_
      refine hv_iload_n E dX7_code_41 rfl 1 rfl rfl ?_
      refine hv_callVV (na := 1) (As := [.int (iI (x))]) (st := []) E (c7_tellPieces l D K (T, 0, true) x hx0 hx1 rfl hM hb0 hb1 hh) dX7_code_42 hM.1 (show vwCl[6]? = some (RX7, TX7, 7) from rfl) gL_X7_84 gV_X7_tellPieces gI_X7_tellPieces gC_X7_tellPieces gZ_X7 (by decide +kernel) rfl ⟨Nat.le_of_ble_eq_true rfl, Nat.le_of_ble_eq_true rfl⟩ (Nat.le_of_ble_eq_true rfl) ⟨Nat.zero_le _, Nat.zero_le _⟩ rfl rfl (fun w2 hp => ?_)
      rw [show mB K (mM K w q ia ta I T b how 0 true pl) q ia ta I b how pl (tl how b (T, 0, true) (cdC (mS I x))) = mM K w q ia ta I (tl how b (T, 0, true) (cdC (mS I x))).1 b how (tl how b (T, 0, true) (cdC (mS I x))).2.1 (tl how b (T, 0, true) (cdC (mS I x))).2.2 pl from mM_mM hm.n1 hm.n2 hm.n3, show cdC (mS I x) = code_ (mS I x) kd from (by unfold code_; rw [if_neg (by omega), if_neg (by omega)])] at hp
      have htd := tl_td how b (T, 0, true) (code_ (mS I x) kd)
      have hle := code_le (mS I x) kd
      generalize tl how b (T, 0, true) (code_ (mS I x) kd) = ST at hp htd ⊢
      obtain ⟨T2, td2, ag2⟩ := ST
      dsimp only at hp htd
      rw [hp]
      show hm_V p l e (hm_rm 6 0 0) s m args below meth c D (hm_A w s.heap.size) 4 0 0 (MQ below (hm_Qv D w s.heap.size (fun w2 => w2 = mM K w q ia ta I T2 b how td2 (ag2 && decide (td2 = b)) pl)) args s 0 0 (hm_A w s.heap.size)) (mM K w q ia ta I T2 b how td2 ag2 pl) 45 [(0, .ref (q)), (1, .int (iI (x))), (2, .int (iI (kd))), (3, .int (iI (how)))] []
      have hM := mAt_mM (K := K) (w := w) (I := I) (T := T2) (b := b) (md := how) (td := td2) (ag := ag2) (pl := pl) hm.n1 hm.n2 hm.n3
      refine hv_aload_n E dX7_code_45 rfl 0 rfl rfl ?_
      refine hv_aload_n E dX7_code_46 rfl 0 rfl rfl ?_
      refine hv_get (kf := 5) E dX7_code_47 (show vwCl[6]? = some (RX7, TX7, 7) from rfl) (by decide) gW_X7 gF_X7_66 rfl hM.1 rfl rfl ?_
      refine hv_if_eqB E 68 dX7_code_50 (by decide) rfl (fun c5 => ?_) (fun c5 => ?_)
      · refine hv_iconst E dX7_code_68 rfl ?_
        refine hv_topi (show iI (0) = bI (false) from rfl) ?_
        refine hv_put (kf := 5) (ty0 := tyX7) E dX7_code_69 (show vwCl[6]? = some (RX7, TX7, 7) from rfl) (by decide) gW_X7 tyX7_ok nmX7 gF_X7_66 rfl hM.1 rfl (bI_narrow _) (bI_fits _) (Nat.le_of_ble_eq_true rfl) rfl ?_
        show hm_V p l e (hm_rm 6 0 0) s m args below meth c D (hm_A w s.heap.size) 4 0 0 (MQ below (hm_Qv D w s.heap.size (fun w2 => w2 = mM K w q ia ta I T2 b how td2 (ag2 && decide (td2 = b)) pl)) args s 0 0 (hm_A w s.heap.size)) (hm_up (mM K w q ia ta I T2 b how td2 ag2 pl) q (.inr (6, [.ref ia, .ref ta, .int (iI (b)), .int (iI (how)), .int (iI (td2)), .int (bI (false)), .int (iI (pl))]))) 72 [(0, .ref (q)), (1, .int (iI (x))), (2, .int (iI (kd))), (3, .int (iI (how)))] []
        refine hv_mem (show hm_up (mM K w q ia ta I T2 b how td2 ag2 pl) q (.inr (6, [.ref ia, .ref ta, .int (iI (b)), .int (iI (how)), .int (iI (td2)), .int (bI (false)), .int (iI (pl))])) = mM K w q ia ta I T2 b how td2 false pl from mM_O) ?_
        have hM := mAt_mM (K := K) (w := w) (I := I) (T := T2) (b := b) (md := how) (td := td2) (ag := false) (pl := pl) hm.n1 hm.n2 hm.n3
        exact hv_vret E dX7_code_72 hr (by rw [c5, Bool.false_and])
      · refine hv_aload_n E dX7_code_53 rfl 0 rfl rfl ?_
        refine hv_get (kf := 4) E dX7_code_54 (show vwCl[6]? = some (RX7, TX7, 7) from rfl) (by decide) gW_X7 gF_X7_63 rfl hM.1 rfl rfl ?_
        refine hv_aload_n E dX7_code_57 rfl 0 rfl rfl ?_
        refine hv_get (kf := 2) E dX7_code_58 (show vwCl[6]? = some (RX7, TX7, 7) from rfl) (by decide) gW_X7 gF_X7_70 rfl hM.1 rfl rfl ?_
        refine hv_icmp_ne E 68 dX7_code_61 (by decide) ⟨by omega, by omega⟩ ⟨by omega, by omega⟩ rfl (fun c6 => ?_) (fun c6 => ?_)
        · refine hv_iconst E dX7_code_68 rfl ?_
          refine hv_topi (show iI (0) = bI (false) from rfl) ?_
          refine hv_put (kf := 5) (ty0 := tyX7) E dX7_code_69 (show vwCl[6]? = some (RX7, TX7, 7) from rfl) (by decide) gW_X7 tyX7_ok nmX7 gF_X7_66 rfl hM.1 rfl (bI_narrow _) (bI_fits _) (Nat.le_of_ble_eq_true rfl) rfl ?_
          show hm_V p l e (hm_rm 6 0 0) s m args below meth c D (hm_A w s.heap.size) 4 0 0 (MQ below (hm_Qv D w s.heap.size (fun w2 => w2 = mM K w q ia ta I T2 b how td2 (ag2 && decide (td2 = b)) pl)) args s 0 0 (hm_A w s.heap.size)) (hm_up (mM K w q ia ta I T2 b how td2 ag2 pl) q (.inr (6, [.ref ia, .ref ta, .int (iI (b)), .int (iI (how)), .int (iI (td2)), .int (bI (false)), .int (iI (pl))]))) 72 [(0, .ref (q)), (1, .int (iI (x))), (2, .int (iI (kd))), (3, .int (iI (how)))] []
          refine hv_mem (show hm_up (mM K w q ia ta I T2 b how td2 ag2 pl) q (.inr (6, [.ref ia, .ref ta, .int (iI (b)), .int (iI (how)), .int (iI (td2)), .int (bI (false)), .int (iI (pl))])) = mM K w q ia ta I T2 b how td2 false pl from mM_O) ?_
          have hM := mAt_mM (K := K) (w := w) (I := I) (T := T2) (b := b) (md := how) (td := td2) (ag := false) (pl := pl) hm.n1 hm.n2 hm.n3
          exact hv_vret E dX7_code_72 hr (by rw [c5, decide_eq_false c6, Bool.true_and])
        · refine hv_iconst E dX7_code_64 rfl ?_
          refine hv_goto E 69 dX7_code_65 (by decide) ?_
          refine hv_topi (show iI (1) = bI (true) from rfl) ?_
          refine hv_put (kf := 5) (ty0 := tyX7) E dX7_code_69 (show vwCl[6]? = some (RX7, TX7, 7) from rfl) (by decide) gW_X7 tyX7_ok nmX7 gF_X7_66 rfl hM.1 rfl (bI_narrow _) (bI_fits _) (Nat.le_of_ble_eq_true rfl) rfl ?_
          show hm_V p l e (hm_rm 6 0 0) s m args below meth c D (hm_A w s.heap.size) 4 0 0 (MQ below (hm_Qv D w s.heap.size (fun w2 => w2 = mM K w q ia ta I T2 b how td2 (ag2 && decide (td2 = b)) pl)) args s 0 0 (hm_A w s.heap.size)) (hm_up (mM K w q ia ta I T2 b how td2 ag2 pl) q (.inr (6, [.ref ia, .ref ta, .int (iI (b)), .int (iI (how)), .int (iI (td2)), .int (bI (true)), .int (iI (pl))]))) 72 [(0, .ref (q)), (1, .int (iI (x))), (2, .int (iI (kd))), (3, .int (iI (how)))] []
          refine hv_mem (show hm_up (mM K w q ia ta I T2 b how td2 ag2 pl) q (.inr (6, [.ref ia, .ref ta, .int (iI (b)), .int (iI (how)), .int (iI (td2)), .int (bI (true)), .int (iI (pl))])) = mM K w q ia ta I T2 b how td2 true pl from mM_O) ?_
          have hM := mAt_mM (K := K) (w := w) (I := I) (T := T2) (b := b) (md := how) (td := td2) (ag := true) (pl := pl) hm.n1 hm.n2 hm.n3
          exact hv_vret E dX7_code_72 hr (by rw [c5, decide_eq_true c6, Bool.true_and])
    · refine hv_aload_n E dX7_code_32 rfl 0 rfl rfl ?_
      refine hv_iload_n E dX7_code_33 rfl 1 rfl rfl ?_
      refine hv_callVV (na := 1) (As := [.int (iI (x))]) (st := []) E (c7_tellGaps l D K (T, 0, true) x hx0 hx1 rfl hM hb0 hb1 hh) dX7_code_34 hM.1 (show vwCl[6]? = some (RX7, TX7, 7) from rfl) gL_X7_81 gV_X7_tellGaps gI_X7_tellGaps gC_X7_tellGaps gZ_X7 (by decide +kernel) rfl ⟨Nat.le_of_ble_eq_true rfl, Nat.le_of_ble_eq_true rfl⟩ (Nat.le_of_ble_eq_true rfl) ⟨Nat.zero_le _, Nat.zero_le _⟩ rfl rfl (fun w2 hp => ?_)
      rw [show mB K (mM K w q ia ta I T b how 0 true pl) q ia ta I b how pl (tl how b (T, 0, true) (cdG (mS I x))) = mM K w q ia ta I (tl how b (T, 0, true) (cdG (mS I x))).1 b how (tl how b (T, 0, true) (cdG (mS I x))).2.1 (tl how b (T, 0, true) (cdG (mS I x))).2.2 pl from mM_mM hm.n1 hm.n2 hm.n3, show cdG (mS I x) = code_ (mS I x) kd from (by unfold code_; rw [if_neg (by omega), if_pos (by omega)])] at hp
      have htd := tl_td how b (T, 0, true) (code_ (mS I x) kd)
      have hle := code_le (mS I x) kd
      generalize tl how b (T, 0, true) (code_ (mS I x) kd) = ST at hp htd ⊢
      obtain ⟨T2, td2, ag2⟩ := ST
      dsimp only at hp htd
      rw [hp]
      show hm_V p l e (hm_rm 6 0 0) s m args below meth c D (hm_A w s.heap.size) 4 0 0 (MQ below (hm_Qv D w s.heap.size (fun w2 => w2 = mM K w q ia ta I T2 b how td2 (ag2 && decide (td2 = b)) pl)) args s 0 0 (hm_A w s.heap.size)) (mM K w q ia ta I T2 b how td2 ag2 pl) 37 [(0, .ref (q)), (1, .int (iI (x))), (2, .int (iI (kd))), (3, .int (iI (how)))] []
      have hM := mAt_mM (K := K) (w := w) (I := I) (T := T2) (b := b) (md := how) (td := td2) (ag := ag2) (pl := pl) hm.n1 hm.n2 hm.n3
      refine hv_goto E 45 dX7_code_37 (by decide) ?_
      refine hv_aload_n E dX7_code_45 rfl 0 rfl rfl ?_
      refine hv_aload_n E dX7_code_46 rfl 0 rfl rfl ?_
      refine hv_get (kf := 5) E dX7_code_47 (show vwCl[6]? = some (RX7, TX7, 7) from rfl) (by decide) gW_X7 gF_X7_66 rfl hM.1 rfl rfl ?_
      refine hv_if_eqB E 68 dX7_code_50 (by decide) rfl (fun c5 => ?_) (fun c5 => ?_)
      · refine hv_iconst E dX7_code_68 rfl ?_
        refine hv_topi (show iI (0) = bI (false) from rfl) ?_
        refine hv_put (kf := 5) (ty0 := tyX7) E dX7_code_69 (show vwCl[6]? = some (RX7, TX7, 7) from rfl) (by decide) gW_X7 tyX7_ok nmX7 gF_X7_66 rfl hM.1 rfl (bI_narrow _) (bI_fits _) (Nat.le_of_ble_eq_true rfl) rfl ?_
        show hm_V p l e (hm_rm 6 0 0) s m args below meth c D (hm_A w s.heap.size) 4 0 0 (MQ below (hm_Qv D w s.heap.size (fun w2 => w2 = mM K w q ia ta I T2 b how td2 (ag2 && decide (td2 = b)) pl)) args s 0 0 (hm_A w s.heap.size)) (hm_up (mM K w q ia ta I T2 b how td2 ag2 pl) q (.inr (6, [.ref ia, .ref ta, .int (iI (b)), .int (iI (how)), .int (iI (td2)), .int (bI (false)), .int (iI (pl))]))) 72 [(0, .ref (q)), (1, .int (iI (x))), (2, .int (iI (kd))), (3, .int (iI (how)))] []
        refine hv_mem (show hm_up (mM K w q ia ta I T2 b how td2 ag2 pl) q (.inr (6, [.ref ia, .ref ta, .int (iI (b)), .int (iI (how)), .int (iI (td2)), .int (bI (false)), .int (iI (pl))])) = mM K w q ia ta I T2 b how td2 false pl from mM_O) ?_
        have hM := mAt_mM (K := K) (w := w) (I := I) (T := T2) (b := b) (md := how) (td := td2) (ag := false) (pl := pl) hm.n1 hm.n2 hm.n3
        exact hv_vret E dX7_code_72 hr (by rw [c5, Bool.false_and])
      · refine hv_aload_n E dX7_code_53 rfl 0 rfl rfl ?_
        refine hv_get (kf := 4) E dX7_code_54 (show vwCl[6]? = some (RX7, TX7, 7) from rfl) (by decide) gW_X7 gF_X7_63 rfl hM.1 rfl rfl ?_
        refine hv_aload_n E dX7_code_57 rfl 0 rfl rfl ?_
        refine hv_get (kf := 2) E dX7_code_58 (show vwCl[6]? = some (RX7, TX7, 7) from rfl) (by decide) gW_X7 gF_X7_70 rfl hM.1 rfl rfl ?_
        refine hv_icmp_ne E 68 dX7_code_61 (by decide) ⟨by omega, by omega⟩ ⟨by omega, by omega⟩ rfl (fun c6 => ?_) (fun c6 => ?_)
        · refine hv_iconst E dX7_code_68 rfl ?_
          refine hv_topi (show iI (0) = bI (false) from rfl) ?_
          refine hv_put (kf := 5) (ty0 := tyX7) E dX7_code_69 (show vwCl[6]? = some (RX7, TX7, 7) from rfl) (by decide) gW_X7 tyX7_ok nmX7 gF_X7_66 rfl hM.1 rfl (bI_narrow _) (bI_fits _) (Nat.le_of_ble_eq_true rfl) rfl ?_
          show hm_V p l e (hm_rm 6 0 0) s m args below meth c D (hm_A w s.heap.size) 4 0 0 (MQ below (hm_Qv D w s.heap.size (fun w2 => w2 = mM K w q ia ta I T2 b how td2 (ag2 && decide (td2 = b)) pl)) args s 0 0 (hm_A w s.heap.size)) (hm_up (mM K w q ia ta I T2 b how td2 ag2 pl) q (.inr (6, [.ref ia, .ref ta, .int (iI (b)), .int (iI (how)), .int (iI (td2)), .int (bI (false)), .int (iI (pl))]))) 72 [(0, .ref (q)), (1, .int (iI (x))), (2, .int (iI (kd))), (3, .int (iI (how)))] []
          refine hv_mem (show hm_up (mM K w q ia ta I T2 b how td2 ag2 pl) q (.inr (6, [.ref ia, .ref ta, .int (iI (b)), .int (iI (how)), .int (iI (td2)), .int (bI (false)), .int (iI (pl))])) = mM K w q ia ta I T2 b how td2 false pl from mM_O) ?_
          have hM := mAt_mM (K := K) (w := w) (I := I) (T := T2) (b := b) (md := how) (td := td2) (ag := false) (pl := pl) hm.n1 hm.n2 hm.n3
          exact hv_vret E dX7_code_72 hr (by rw [c5, decide_eq_false c6, Bool.true_and])
        · refine hv_iconst E dX7_code_64 rfl ?_
          refine hv_goto E 69 dX7_code_65 (by decide) ?_
          refine hv_topi (show iI (1) = bI (true) from rfl) ?_
          refine hv_put (kf := 5) (ty0 := tyX7) E dX7_code_69 (show vwCl[6]? = some (RX7, TX7, 7) from rfl) (by decide) gW_X7 tyX7_ok nmX7 gF_X7_66 rfl hM.1 rfl (bI_narrow _) (bI_fits _) (Nat.le_of_ble_eq_true rfl) rfl ?_
          show hm_V p l e (hm_rm 6 0 0) s m args below meth c D (hm_A w s.heap.size) 4 0 0 (MQ below (hm_Qv D w s.heap.size (fun w2 => w2 = mM K w q ia ta I T2 b how td2 (ag2 && decide (td2 = b)) pl)) args s 0 0 (hm_A w s.heap.size)) (hm_up (mM K w q ia ta I T2 b how td2 ag2 pl) q (.inr (6, [.ref ia, .ref ta, .int (iI (b)), .int (iI (how)), .int (iI (td2)), .int (bI (true)), .int (iI (pl))]))) 72 [(0, .ref (q)), (1, .int (iI (x))), (2, .int (iI (kd))), (3, .int (iI (how)))] []
          refine hv_mem (show hm_up (mM K w q ia ta I T2 b how td2 ag2 pl) q (.inr (6, [.ref ia, .ref ta, .int (iI (b)), .int (iI (how)), .int (iI (td2)), .int (bI (true)), .int (iI (pl))])) = mM K w q ia ta I T2 b how td2 true pl from mM_O) ?_
          have hM := mAt_mM (K := K) (w := w) (I := I) (T := T2) (b := b) (md := how) (td := td2) (ag := true) (pl := pl) hm.n1 hm.n2 hm.n3
          exact hv_vret E dX7_code_72 hr (by rw [c5, decide_eq_true c6, Bool.true_and])
  · refine hv_aload_n E dX7_code_19 rfl 0 rfl rfl ?_
    refine hv_iload_n E dX7_code_20 rfl 1 rfl rfl ?_
    refine hv_callVV (na := 1) (As := [.int (iI (x))]) (st := []) E (c7_tellParts l D K (T, 0, true) x hx0 hx1 rfl hM hb0 hb1 hh) dX7_code_21 hM.1 (show vwCl[6]? = some (RX7, TX7, 7) from rfl) gL_X7_77 gV_X7_tellParts gI_X7_tellParts gC_X7_tellParts gZ_X7 (by decide +kernel) rfl ⟨Nat.le_of_ble_eq_true rfl, Nat.le_of_ble_eq_true rfl⟩ (Nat.le_of_ble_eq_true rfl) ⟨Nat.zero_le _, Nat.zero_le _⟩ rfl rfl (fun w2 hp => ?_)
    rw [show mB K (mM K w q ia ta I T b how 0 true pl) q ia ta I b how pl (tl how b (T, 0, true) (cdP (mS I x))) = mM K w q ia ta I (tl how b (T, 0, true) (cdP (mS I x))).1 b how (tl how b (T, 0, true) (cdP (mS I x))).2.1 (tl how b (T, 0, true) (cdP (mS I x))).2.2 pl from mM_mM hm.n1 hm.n2 hm.n3, show cdP (mS I x) = code_ (mS I x) kd from (by unfold code_; rw [if_pos (by omega)])] at hp
    have htd := tl_td how b (T, 0, true) (code_ (mS I x) kd)
    have hle := code_le (mS I x) kd
    generalize tl how b (T, 0, true) (code_ (mS I x) kd) = ST at hp htd ⊢
    obtain ⟨T2, td2, ag2⟩ := ST
    dsimp only at hp htd
    rw [hp]
    show hm_V p l e (hm_rm 6 0 0) s m args below meth c D (hm_A w s.heap.size) 4 0 0 (MQ below (hm_Qv D w s.heap.size (fun w2 => w2 = mM K w q ia ta I T2 b how td2 (ag2 && decide (td2 = b)) pl)) args s 0 0 (hm_A w s.heap.size)) (mM K w q ia ta I T2 b how td2 ag2 pl) 24 [(0, .ref (q)), (1, .int (iI (x))), (2, .int (iI (kd))), (3, .int (iI (how)))] []
    have hM := mAt_mM (K := K) (w := w) (I := I) (T := T2) (b := b) (md := how) (td := td2) (ag := ag2) (pl := pl) hm.n1 hm.n2 hm.n3
    refine hv_goto E 45 dX7_code_24 (by decide) ?_
    refine hv_aload_n E dX7_code_45 rfl 0 rfl rfl ?_
    refine hv_aload_n E dX7_code_46 rfl 0 rfl rfl ?_
    refine hv_get (kf := 5) E dX7_code_47 (show vwCl[6]? = some (RX7, TX7, 7) from rfl) (by decide) gW_X7 gF_X7_66 rfl hM.1 rfl rfl ?_
    refine hv_if_eqB E 68 dX7_code_50 (by decide) rfl (fun c5 => ?_) (fun c5 => ?_)
    · refine hv_iconst E dX7_code_68 rfl ?_
      refine hv_topi (show iI (0) = bI (false) from rfl) ?_
      refine hv_put (kf := 5) (ty0 := tyX7) E dX7_code_69 (show vwCl[6]? = some (RX7, TX7, 7) from rfl) (by decide) gW_X7 tyX7_ok nmX7 gF_X7_66 rfl hM.1 rfl (bI_narrow _) (bI_fits _) (Nat.le_of_ble_eq_true rfl) rfl ?_
      show hm_V p l e (hm_rm 6 0 0) s m args below meth c D (hm_A w s.heap.size) 4 0 0 (MQ below (hm_Qv D w s.heap.size (fun w2 => w2 = mM K w q ia ta I T2 b how td2 (ag2 && decide (td2 = b)) pl)) args s 0 0 (hm_A w s.heap.size)) (hm_up (mM K w q ia ta I T2 b how td2 ag2 pl) q (.inr (6, [.ref ia, .ref ta, .int (iI (b)), .int (iI (how)), .int (iI (td2)), .int (bI (false)), .int (iI (pl))]))) 72 [(0, .ref (q)), (1, .int (iI (x))), (2, .int (iI (kd))), (3, .int (iI (how)))] []
      refine hv_mem (show hm_up (mM K w q ia ta I T2 b how td2 ag2 pl) q (.inr (6, [.ref ia, .ref ta, .int (iI (b)), .int (iI (how)), .int (iI (td2)), .int (bI (false)), .int (iI (pl))])) = mM K w q ia ta I T2 b how td2 false pl from mM_O) ?_
      have hM := mAt_mM (K := K) (w := w) (I := I) (T := T2) (b := b) (md := how) (td := td2) (ag := false) (pl := pl) hm.n1 hm.n2 hm.n3
      exact hv_vret E dX7_code_72 hr (by rw [c5, Bool.false_and])
    · refine hv_aload_n E dX7_code_53 rfl 0 rfl rfl ?_
      refine hv_get (kf := 4) E dX7_code_54 (show vwCl[6]? = some (RX7, TX7, 7) from rfl) (by decide) gW_X7 gF_X7_63 rfl hM.1 rfl rfl ?_
      refine hv_aload_n E dX7_code_57 rfl 0 rfl rfl ?_
      refine hv_get (kf := 2) E dX7_code_58 (show vwCl[6]? = some (RX7, TX7, 7) from rfl) (by decide) gW_X7 gF_X7_70 rfl hM.1 rfl rfl ?_
      refine hv_icmp_ne E 68 dX7_code_61 (by decide) ⟨by omega, by omega⟩ ⟨by omega, by omega⟩ rfl (fun c6 => ?_) (fun c6 => ?_)
      · refine hv_iconst E dX7_code_68 rfl ?_
        refine hv_topi (show iI (0) = bI (false) from rfl) ?_
        refine hv_put (kf := 5) (ty0 := tyX7) E dX7_code_69 (show vwCl[6]? = some (RX7, TX7, 7) from rfl) (by decide) gW_X7 tyX7_ok nmX7 gF_X7_66 rfl hM.1 rfl (bI_narrow _) (bI_fits _) (Nat.le_of_ble_eq_true rfl) rfl ?_
        show hm_V p l e (hm_rm 6 0 0) s m args below meth c D (hm_A w s.heap.size) 4 0 0 (MQ below (hm_Qv D w s.heap.size (fun w2 => w2 = mM K w q ia ta I T2 b how td2 (ag2 && decide (td2 = b)) pl)) args s 0 0 (hm_A w s.heap.size)) (hm_up (mM K w q ia ta I T2 b how td2 ag2 pl) q (.inr (6, [.ref ia, .ref ta, .int (iI (b)), .int (iI (how)), .int (iI (td2)), .int (bI (false)), .int (iI (pl))]))) 72 [(0, .ref (q)), (1, .int (iI (x))), (2, .int (iI (kd))), (3, .int (iI (how)))] []
        refine hv_mem (show hm_up (mM K w q ia ta I T2 b how td2 ag2 pl) q (.inr (6, [.ref ia, .ref ta, .int (iI (b)), .int (iI (how)), .int (iI (td2)), .int (bI (false)), .int (iI (pl))])) = mM K w q ia ta I T2 b how td2 false pl from mM_O) ?_
        have hM := mAt_mM (K := K) (w := w) (I := I) (T := T2) (b := b) (md := how) (td := td2) (ag := false) (pl := pl) hm.n1 hm.n2 hm.n3
        exact hv_vret E dX7_code_72 hr (by rw [c5, decide_eq_false c6, Bool.true_and])
      · refine hv_iconst E dX7_code_64 rfl ?_
        refine hv_goto E 69 dX7_code_65 (by decide) ?_
        refine hv_topi (show iI (1) = bI (true) from rfl) ?_
        refine hv_put (kf := 5) (ty0 := tyX7) E dX7_code_69 (show vwCl[6]? = some (RX7, TX7, 7) from rfl) (by decide) gW_X7 tyX7_ok nmX7 gF_X7_66 rfl hM.1 rfl (bI_narrow _) (bI_fits _) (Nat.le_of_ble_eq_true rfl) rfl ?_
        show hm_V p l e (hm_rm 6 0 0) s m args below meth c D (hm_A w s.heap.size) 4 0 0 (MQ below (hm_Qv D w s.heap.size (fun w2 => w2 = mM K w q ia ta I T2 b how td2 (ag2 && decide (td2 = b)) pl)) args s 0 0 (hm_A w s.heap.size)) (hm_up (mM K w q ia ta I T2 b how td2 ag2 pl) q (.inr (6, [.ref ia, .ref ta, .int (iI (b)), .int (iI (how)), .int (iI (td2)), .int (bI (true)), .int (iI (pl))]))) 72 [(0, .ref (q)), (1, .int (iI (x))), (2, .int (iI (kd))), (3, .int (iI (how)))] []
        refine hv_mem (show hm_up (mM K w q ia ta I T2 b how td2 ag2 pl) q (.inr (6, [.ref ia, .ref ta, .int (iI (b)), .int (iI (how)), .int (iI (td2)), .int (bI (true)), .int (iI (pl))])) = mM K w q ia ta I T2 b how td2 true pl from mM_O) ?_
        have hM := mAt_mM (K := K) (w := w) (I := I) (T := T2) (b := b) (md := how) (td := td2) (ag := true) (pl := pl) hm.n1 hm.n2 hm.n3
        exact hv_vret E dX7_code_72 hr (by rw [c5, decide_eq_true c6, Bool.true_and])
set_option maxHeartbeats 4000000 in
set_option maxRecDepth 100000 in
theorem c7_length (l : Launch) (D : va_G) (K : Nat → ClassId) {w : hm_M} {q ia ta : Nat} {I T : Nat → Bool} {b md td : Int} {ag : Bool} {pl : Int} (x kd : Int) (hx : iB x) (hkb : iB kd) (hm : mAt K w q ia ta I T b md td ag pl) (hb0 : 0 ≤ b) (hb1 : b ≤ 8210)  : hm_Ci l D K yX7_length cX7_length 3 .int 7 [.ref (q), .int (iI (x)), .int (iI (kd))] w 0 0 (fun r w2 => r = iI (if 0 ≤ x ∧ x < 8 then (if 0 ≤ kd ∧ kd < 3 then ((code_ (mS I x) kd).length : Nat) else -3) else -2) ∧ ∃ md2 td2 : Int, ∃ ag2 : Bool, w2 = mM K w q ia ta I T b md2 td2 ag2 pl) := by
  refine hm_enterI (by decide) (Nat.le_of_ble_eq_true rfl) ?_
  intro p e s m args below meth c E hr hnm
  show hm_V p l e (hm_rm 7 0 0) s m args below meth c D (hm_A w s.heap.size) 3 0 0 (MQ below (hm_Qi D w s.heap.size (fun r w2 => r = iI (if 0 ≤ x ∧ x < 8 then (if 0 ≤ kd ∧ kd < 3 then ((code_ (mS I x) kd).length : Nat) else -3) else -2) ∧ ∃ md2 td2 : Int, ∃ ag2 : Bool, w2 = mM K w q ia ta I T b md2 td2 ag2 pl)) args s 0 0 (hm_A w s.heap.size)) w 0 [(0, .ref (q)), (1, .int (iI (x))), (2, .int (iI (kd)))] []
  refine hv_iload_n E dX7_length_0 rfl 1 rfl rfl ?_
  refine hv_callSI (na := 1) (As := [.int (iI (x))]) (st := []) E (c7_isSet l D K x hx) dX7_length_1 gL_X7_21 gS_X7_isSet gC_X7_isSet gZ_X7 (by decide +kernel) rfl ⟨Nat.le_of_ble_eq_true rfl, Nat.le_of_ble_eq_true rfl⟩ (Nat.le_of_ble_eq_true rfl) ⟨Nat.zero_le _, Nat.zero_le _⟩ rfl rfl (fun r w2 hp => ?_)
  rw [hp.1, hp.2]
  show hm_V p l e (hm_rm 7 0 0) s m args below meth c D (hm_A w s.heap.size) 3 0 0 (MQ below (hm_Qi D w s.heap.size (fun r w2 => r = iI (if 0 ≤ x ∧ x < 8 then (if 0 ≤ kd ∧ kd < 3 then ((code_ (mS I x) kd).length : Nat) else -3) else -2) ∧ ∃ md2 td2 : Int, ∃ ag2 : Bool, w2 = mM K w q ia ta I T b md2 td2 ag2 pl)) args s 0 0 (hm_A w s.heap.size)) w 4 [(0, .ref (q)), (1, .int (iI (x))), (2, .int (iI (kd)))] [.int (bI (decide (0 ≤ x ∧ x ≤ 7)))]
  refine hv_if_neB E 10 dX7_length_4 (by decide) rfl (fun c1 => ?_) (fun c1 => ?_)
  · have c1 := of_decide_eq_true c1
    refine hv_iload_n E dX7_length_10 rfl 2 rfl rfl ?_
    refine hv_iconst E dX7_length_11 rfl ?_
    refine hv_iconst E dX7_length_12 rfl ?_
    refine hv_callSI (na := 3) (As := [.int (iI (kd)), .int (iI (0)), .int (iI (2))]) (st := []) E (c7_within l D K kd 0 2 hkb ⟨by omega, by omega⟩ ⟨by omega, by omega⟩) dX7_length_13 gL_X7_17 gS_X7_within gC_X7_within gZ_X7 (by decide +kernel) rfl ⟨Nat.le_of_ble_eq_true rfl, Nat.le_of_ble_eq_true rfl⟩ (Nat.le_of_ble_eq_true rfl) ⟨Nat.zero_le _, Nat.zero_le _⟩ rfl rfl (fun r w2 hp => ?_)
    rw [hp.1, hp.2]
    show hm_V p l e (hm_rm 7 0 0) s m args below meth c D (hm_A w s.heap.size) 3 0 0 (MQ below (hm_Qi D w s.heap.size (fun r w2 => r = iI (if 0 ≤ x ∧ x < 8 then (if 0 ≤ kd ∧ kd < 3 then ((code_ (mS I x) kd).length : Nat) else -3) else -2) ∧ ∃ md2 td2 : Int, ∃ ag2 : Bool, w2 = mM K w q ia ta I T b md2 td2 ag2 pl)) args s 0 0 (hm_A w s.heap.size)) w 16 [(0, .ref (q)), (1, .int (iI (x))), (2, .int (iI (kd)))] [.int (bI (decide (0 ≤ kd ∧ kd ≤ 2)))]
    refine hv_if_neB E 22 dX7_length_16 (by decide) rfl (fun c2 => ?_) (fun c2 => ?_)
    · have c2 := of_decide_eq_true c2
      refine hv_aload_n E dX7_length_22 rfl 0 rfl rfl ?_
      refine hv_iload_n E dX7_length_23 rfl 1 rfl rfl ?_
      refine hv_iload_n E dX7_length_24 rfl 2 rfl rfl ?_
      refine hv_iconst E dX7_length_25 rfl ?_
      have hle := code_le (mS I x) kd
      refine hv_callVV (na := 3) (As := [.int (iI (x)), .int (iI (kd)), .int (iI (0))]) (st := []) E (c7_code l D K x kd 0 (by omega) (by omega) (by omega) (by omega) (by omega) hm hb0 hb1) dX7_length_26 hm.1 (show vwCl[6]? = some (RX7, TX7, 7) from rfl) gL_X7_98 gV_X7_code gI_X7_code gC_X7_code gZ_X7 (by decide +kernel) rfl ⟨Nat.le_of_ble_eq_true rfl, Nat.le_of_ble_eq_true rfl⟩ (Nat.le_of_ble_eq_true rfl) ⟨Nat.zero_le _, Nat.zero_le _⟩ rfl rfl (fun w2 hp => ?_)
      rw [tl_0] at hp
      dsimp only at hp
      rw [Int.zero_add] at hp
      obtain ⟨A2, hA2⟩ : ∃ z, z = (true && decide (((code_ (mS I x) kd).length : Int) = b)) := ⟨_, rfl⟩
      rw [← hA2] at hp
      rw [hp]
      show hm_V p l e (hm_rm 7 0 0) s m args below meth c D (hm_A w s.heap.size) 3 0 0 (MQ below (hm_Qi D w s.heap.size (fun r w2 => r = iI (if 0 ≤ x ∧ x < 8 then (if 0 ≤ kd ∧ kd < 3 then ((code_ (mS I x) kd).length : Nat) else -3) else -2) ∧ ∃ md2 td2 : Int, ∃ ag2 : Bool, w2 = mM K w q ia ta I T b md2 td2 ag2 pl)) args s 0 0 (hm_A w s.heap.size)) (mM K w q ia ta I T b 0 (((code_ (mS I x) kd).length : Int)) A2 pl) 29 [(0, .ref (q)), (1, .int (iI (x))), (2, .int (iI (kd)))] []
      have hM := mAt_mM (K := K) (w := w) (I := I) (T := T) (b := b) (md := 0) (td := ((code_ (mS I x) kd).length : Int)) (ag := A2) (pl := pl) hm.n1 hm.n2 hm.n3
      refine hv_aload_n E dX7_length_29 rfl 0 rfl rfl ?_
      refine hv_get (kf := 4) E dX7_length_30 (show vwCl[6]? = some (RX7, TX7, 7) from rfl) (by decide) gW_X7 gF_X7_63 rfl hM.1 rfl rfl ?_
      exact hv_iret E dX7_length_33 hr ⟨by rw [if_pos (by omega), if_pos (by omega)], _, _, _, rfl⟩
    · have c2 := of_decide_eq_false c2
      refine hv_bipush E dX7_length_19 (by decide +kernel) rfl ?_
      exact hv_iret E dX7_length_21 hr ⟨(by (repeat (first | rw [if_pos (by omega)] | rw [if_neg (by omega)])) <;> first | done | rfl), md, td, ag, mM_id hm⟩
  · have c1 := of_decide_eq_false c1
    refine hv_bipush E dX7_length_7 (by decide +kernel) rfl ?_
    exact hv_iret E dX7_length_9 hr ⟨(by (repeat (first | rw [if_pos (by omega)] | rw [if_neg (by omega)])) <;> first | done | rfl), md, td, ag, mM_id hm⟩
set_option maxHeartbeats 4000000 in
set_option maxRecDepth 100000 in
theorem c7_write (l : Launch) (D : va_G) (K : Nat → ClassId) {w : hm_M} {q ia ta : Nat} {I T : Nat → Bool} {b md td : Int} {ag : Bool} {pl : Int} (x kd : Int) (hx : iB x) (hkb : iB kd) (hm : mAt K w q ia ta I T b md td ag pl) (hb0 : 0 ≤ b) (hb1 : b ≤ 8210)  : hm_Ci l D K yX7_write cX7_write 3 .int 7 [.ref (q), .int (iI (x)), .int (iI (kd))] w 0 0 (fun r w2 => r = iI (if 0 ≤ x ∧ x < 8 then (if 0 ≤ kd ∧ kd < 3 then ((code_ (mS I x) kd).length : Nat) else -3) else -2) ∧ ∃ (T2 : Nat → Bool) (b2 md2 td2 : Int) (ag2 : Bool), w2 = mM K w q ia ta I T2 b2 md2 td2 ag2 pl ∧ b2 = (if (0 ≤ x ∧ x < 8) ∧ 0 ≤ kd ∧ kd < 3 then (((code_ (mS I x) kd).length : Nat) : Int) else b) ∧ ∀ i : Nat, (i : Int) < b2 → T2 i = if (0 ≤ x ∧ x < 8) ∧ 0 ≤ kd ∧ kd < 3 then (code_ (mS I x) kd).getD i false else T i) := by
  refine hm_enterI (by decide) (Nat.le_of_ble_eq_true rfl) ?_
  intro p e s m args below meth c E hr hnm
  show hm_V p l e (hm_rm 7 0 0) s m args below meth c D (hm_A w s.heap.size) 3 0 0 (MQ below (hm_Qi D w s.heap.size (fun r w2 => r = iI (if 0 ≤ x ∧ x < 8 then (if 0 ≤ kd ∧ kd < 3 then ((code_ (mS I x) kd).length : Nat) else -3) else -2) ∧ ∃ (T2 : Nat → Bool) (b2 md2 td2 : Int) (ag2 : Bool), w2 = mM K w q ia ta I T2 b2 md2 td2 ag2 pl ∧ b2 = (if (0 ≤ x ∧ x < 8) ∧ 0 ≤ kd ∧ kd < 3 then (((code_ (mS I x) kd).length : Nat) : Int) else b) ∧ ∀ i : Nat, (i : Int) < b2 → T2 i = if (0 ≤ x ∧ x < 8) ∧ 0 ≤ kd ∧ kd < 3 then (code_ (mS I x) kd).getD i false else T i)) args s 0 0 (hm_A w s.heap.size)) w 0 [(0, .ref (q)), (1, .int (iI (x))), (2, .int (iI (kd)))] []
  refine hv_iload_n E dX7_write_0 rfl 1 rfl rfl ?_
  refine hv_callSI (na := 1) (As := [.int (iI (x))]) (st := []) E (c7_isSet l D K x hx) dX7_write_1 gL_X7_21 gS_X7_isSet gC_X7_isSet gZ_X7 (by decide +kernel) rfl ⟨Nat.le_of_ble_eq_true rfl, Nat.le_of_ble_eq_true rfl⟩ (Nat.le_of_ble_eq_true rfl) ⟨Nat.zero_le _, Nat.zero_le _⟩ rfl rfl (fun r w2 hp => ?_)
  rw [hp.1, hp.2]
  show hm_V p l e (hm_rm 7 0 0) s m args below meth c D (hm_A w s.heap.size) 3 0 0 (MQ below (hm_Qi D w s.heap.size (fun r w2 => r = iI (if 0 ≤ x ∧ x < 8 then (if 0 ≤ kd ∧ kd < 3 then ((code_ (mS I x) kd).length : Nat) else -3) else -2) ∧ ∃ (T2 : Nat → Bool) (b2 md2 td2 : Int) (ag2 : Bool), w2 = mM K w q ia ta I T2 b2 md2 td2 ag2 pl ∧ b2 = (if (0 ≤ x ∧ x < 8) ∧ 0 ≤ kd ∧ kd < 3 then (((code_ (mS I x) kd).length : Nat) : Int) else b) ∧ ∀ i : Nat, (i : Int) < b2 → T2 i = if (0 ≤ x ∧ x < 8) ∧ 0 ≤ kd ∧ kd < 3 then (code_ (mS I x) kd).getD i false else T i)) args s 0 0 (hm_A w s.heap.size)) w 4 [(0, .ref (q)), (1, .int (iI (x))), (2, .int (iI (kd)))] [.int (bI (decide (0 ≤ x ∧ x ≤ 7)))]
  refine hv_if_neB E 10 dX7_write_4 (by decide) rfl (fun c1 => ?_) (fun c1 => ?_)
  · have c1 := of_decide_eq_true c1
    refine hv_iload_n E dX7_write_10 rfl 2 rfl rfl ?_
    refine hv_iconst E dX7_write_11 rfl ?_
    refine hv_iconst E dX7_write_12 rfl ?_
    refine hv_callSI (na := 3) (As := [.int (iI (kd)), .int (iI (0)), .int (iI (2))]) (st := []) E (c7_within l D K kd 0 2 hkb ⟨by omega, by omega⟩ ⟨by omega, by omega⟩) dX7_write_13 gL_X7_17 gS_X7_within gC_X7_within gZ_X7 (by decide +kernel) rfl ⟨Nat.le_of_ble_eq_true rfl, Nat.le_of_ble_eq_true rfl⟩ (Nat.le_of_ble_eq_true rfl) ⟨Nat.zero_le _, Nat.zero_le _⟩ rfl rfl (fun r w2 hp => ?_)
    rw [hp.1, hp.2]
    show hm_V p l e (hm_rm 7 0 0) s m args below meth c D (hm_A w s.heap.size) 3 0 0 (MQ below (hm_Qi D w s.heap.size (fun r w2 => r = iI (if 0 ≤ x ∧ x < 8 then (if 0 ≤ kd ∧ kd < 3 then ((code_ (mS I x) kd).length : Nat) else -3) else -2) ∧ ∃ (T2 : Nat → Bool) (b2 md2 td2 : Int) (ag2 : Bool), w2 = mM K w q ia ta I T2 b2 md2 td2 ag2 pl ∧ b2 = (if (0 ≤ x ∧ x < 8) ∧ 0 ≤ kd ∧ kd < 3 then (((code_ (mS I x) kd).length : Nat) : Int) else b) ∧ ∀ i : Nat, (i : Int) < b2 → T2 i = if (0 ≤ x ∧ x < 8) ∧ 0 ≤ kd ∧ kd < 3 then (code_ (mS I x) kd).getD i false else T i)) args s 0 0 (hm_A w s.heap.size)) w 16 [(0, .ref (q)), (1, .int (iI (x))), (2, .int (iI (kd)))] [.int (bI (decide (0 ≤ kd ∧ kd ≤ 2)))]
    refine hv_if_neB E 22 dX7_write_16 (by decide) rfl (fun c2 => ?_) (fun c2 => ?_)
    · have c2 := of_decide_eq_true c2
      refine hv_aload_n E dX7_write_22 rfl 0 rfl rfl ?_
      refine hv_iload_n E dX7_write_23 rfl 1 rfl rfl ?_
      refine hv_iload_n E dX7_write_24 rfl 2 rfl rfl ?_
      refine hv_iconst E dX7_write_25 rfl ?_
      have hle := code_le (mS I x) kd
      refine hv_callVV (na := 3) (As := [.int (iI (x)), .int (iI (kd)), .int (iI (1))]) (st := []) E (c7_code l D K x kd 1 (by omega) (by omega) (by omega) (by omega) (by omega) hm hb0 hb1) dX7_write_26 hm.1 (show vwCl[6]? = some (RX7, TX7, 7) from rfl) gL_X7_98 gV_X7_code gI_X7_code gC_X7_code gZ_X7 (by decide +kernel) rfl ⟨Nat.le_of_ble_eq_true rfl, Nat.le_of_ble_eq_true rfl⟩ (Nat.le_of_ble_eq_true rfl) ⟨Nat.zero_le _, Nat.zero_le _⟩ rfl rfl (fun w2 hp => ?_)
      have htd := tl_td 1 b (T, 0, true) (code_ (mS I x) kd)
      have hT := tl_1 b T 0 (by omega) true (code_ (mS I x) kd)
      generalize tl 1 b (T, 0, true) (code_ (mS I x) kd) = ST at hp htd hT
      obtain ⟨T2, td2, ag2⟩ := ST
      dsimp only at hp htd hT
      rw [Int.zero_add] at htd
      subst htd
      obtain ⟨A2, hA2⟩ : ∃ z, z = (ag2 && decide (((code_ (mS I x) kd).length : Int) = b)) := ⟨_, rfl⟩
      rw [← hA2] at hp
      rw [hp]
      show hm_V p l e (hm_rm 7 0 0) s m args below meth c D (hm_A w s.heap.size) 3 0 0 (MQ below (hm_Qi D w s.heap.size (fun r w2 => r = iI (if 0 ≤ x ∧ x < 8 then (if 0 ≤ kd ∧ kd < 3 then ((code_ (mS I x) kd).length : Nat) else -3) else -2) ∧ ∃ (T2 : Nat → Bool) (b2 md2 td2 : Int) (ag2 : Bool), w2 = mM K w q ia ta I T2 b2 md2 td2 ag2 pl ∧ b2 = (if (0 ≤ x ∧ x < 8) ∧ 0 ≤ kd ∧ kd < 3 then (((code_ (mS I x) kd).length : Nat) : Int) else b) ∧ ∀ i : Nat, (i : Int) < b2 → T2 i = if (0 ≤ x ∧ x < 8) ∧ 0 ≤ kd ∧ kd < 3 then (code_ (mS I x) kd).getD i false else T i)) args s 0 0 (hm_A w s.heap.size)) (mM K w q ia ta I T2 b 1 (((code_ (mS I x) kd).length : Int)) A2 pl) 29 [(0, .ref (q)), (1, .int (iI (x))), (2, .int (iI (kd)))] []
      have hM := mAt_mM (K := K) (w := w) (I := I) (T := T2) (b := b) (md := 1) (td := ((code_ (mS I x) kd).length : Int)) (ag := A2) (pl := pl) hm.n1 hm.n2 hm.n3
      refine hv_aload_n E dX7_write_29 rfl 0 rfl rfl ?_
      refine hv_aload_n E dX7_write_30 rfl 0 rfl rfl ?_
      refine hv_get (kf := 4) E dX7_write_31 (show vwCl[6]? = some (RX7, TX7, 7) from rfl) (by decide) gW_X7 gF_X7_63 rfl hM.1 rfl rfl ?_
      refine hv_put (kf := 2) (ty0 := tyX7) E dX7_write_34 (show vwCl[6]? = some (RX7, TX7, 7) from rfl) (by decide) gW_X7 tyX7_ok nmX7 gF_X7_70 rfl hM.1 rfl rfl rfl (Nat.le_of_ble_eq_true rfl) rfl ?_
      show hm_V p l e (hm_rm 7 0 0) s m args below meth c D (hm_A w s.heap.size) 3 0 0 (MQ below (hm_Qi D w s.heap.size (fun r w2 => r = iI (if 0 ≤ x ∧ x < 8 then (if 0 ≤ kd ∧ kd < 3 then ((code_ (mS I x) kd).length : Nat) else -3) else -2) ∧ ∃ (T2 : Nat → Bool) (b2 md2 td2 : Int) (ag2 : Bool), w2 = mM K w q ia ta I T2 b2 md2 td2 ag2 pl ∧ b2 = (if (0 ≤ x ∧ x < 8) ∧ 0 ≤ kd ∧ kd < 3 then (((code_ (mS I x) kd).length : Nat) : Int) else b) ∧ ∀ i : Nat, (i : Int) < b2 → T2 i = if (0 ≤ x ∧ x < 8) ∧ 0 ≤ kd ∧ kd < 3 then (code_ (mS I x) kd).getD i false else T i)) args s 0 0 (hm_A w s.heap.size)) (hm_up (mM K w q ia ta I T2 b 1 (((code_ (mS I x) kd).length : Int)) A2 pl) q (.inr (6, [.ref ia, .ref ta, .int (iI (((code_ (mS I x) kd).length : Int))), .int (iI (1)), .int (iI (((code_ (mS I x) kd).length : Int))), .int (bI (A2)), .int (iI (pl))]))) 37 [(0, .ref (q)), (1, .int (iI (x))), (2, .int (iI (kd)))] []
      refine hv_mem (show hm_up (mM K w q ia ta I T2 b 1 (((code_ (mS I x) kd).length : Int)) A2 pl) q (.inr (6, [.ref ia, .ref ta, .int (iI (((code_ (mS I x) kd).length : Int))), .int (iI (1)), .int (iI (((code_ (mS I x) kd).length : Int))), .int (bI (A2)), .int (iI (pl))])) = mM K w q ia ta I T2 (((code_ (mS I x) kd).length : Int)) 1 (((code_ (mS I x) kd).length : Int)) A2 pl from mM_O) ?_
      have hM := mAt_mM (K := K) (w := w) (I := I) (T := T2) (b := ((code_ (mS I x) kd).length : Int)) (md := 1) (td := ((code_ (mS I x) kd).length : Int)) (ag := A2) (pl := pl) hm.n1 hm.n2 hm.n3
      refine hv_aload_n E dX7_write_37 rfl 0 rfl rfl ?_
      refine hv_get (kf := 2) E dX7_write_38 (show vwCl[6]? = some (RX7, TX7, 7) from rfl) (by decide) gW_X7 gF_X7_70 rfl hM.1 rfl rfl ?_
      exact hv_iret E dX7_write_41 hr ⟨by rw [if_pos (by omega), if_pos (by omega)], _, _, _, _, _, rfl, (if_pos (by omega)).symm, fun i hi => by rw [if_pos (by omega), hT i, if_pos (by omega)]; rfl⟩
    · have c2 := of_decide_eq_false c2
      refine hv_bipush E dX7_write_19 (by decide +kernel) rfl ?_
      exact hv_iret E dX7_write_21 hr ⟨(by (repeat (first | rw [if_pos (by omega)] | rw [if_neg (by omega)])) <;> first | done | rfl), T, b, md, td, ag, mM_id hm, (if_neg (by omega)).symm, fun i hi => (if_neg (by omega)).symm⟩
  · have c1 := of_decide_eq_false c1
    refine hv_bipush E dX7_write_7 (by decide +kernel) rfl ?_
    exact hv_iret E dX7_write_9 hr ⟨(by (repeat (first | rw [if_pos (by omega)] | rw [if_neg (by omega)])) <;> first | done | rfl), T, b, md, td, ag, mM_id hm, (if_neg (by omega)).symm, fun i hi => (if_neg (by omega)).symm⟩
