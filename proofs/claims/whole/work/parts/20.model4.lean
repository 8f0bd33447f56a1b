abbrev mT (K : Nat → ClassId) (T : Nat → Bool) : va_E := .inl (K 1, 8210, .inl (fun j => bI (T j)))
abbrev mO (ia ta : Nat) (b md td : Int) (ag : Bool) (pl : Int) : va_E := .inr (6, [.ref ia, .ref ta, .int (iI b), .int (iI md), .int (iI td), .int (bI ag), .int (iI pl)])
/-- the model's state: sets I at ia, tape T at ta, b bits; mode, told, agrees, at -/
def mAt (K : Nat → ClassId) (w : hm_M) (q ia ta : Nat) (I T : Nat → Bool) (b md td : Int) (ag : Bool) (pl : Int) : Prop := w q = some (mO ia ta b md td ag pl) ∧ w ia = some (mE K I) ∧ w ta = some (mT K T)
def mM (K : Nat → ClassId) (w : hm_M) (q ia ta : Nat) (I T : Nat → Bool) (b md td : Int) (ag : Bool) (pl : Int) : hm_M := hm_up (hm_up (hm_up w ia (mE K I)) ta (mT K T)) q (mO ia ta b md td ag pl)
theorem mAt.i {K : Nat → ClassId} {w : hm_M} {q ia ta : Nat} {I T : Nat → Bool} {b md td : Int} {ag : Bool} {pl : Int} (h : mAt K w q ia ta I T b md td ag pl) : mI K w q ia [.ref ta, .int (iI b), .int (iI md), .int (iI td), .int (bI ag), .int (iI pl)] I := ⟨h.1, h.2.1⟩
theorem mAt.n1 {K : Nat → ClassId} {w : hm_M} {q ia ta : Nat} {I T : Nat → Bool} {b md td : Int} {ag : Bool} {pl : Int} (h : mAt K w q ia ta I T b md td ag pl) : q ≠ ia := h.i.ne
theorem mAt.n2 {K : Nat → ClassId} {w : hm_M} {q ia ta : Nat} {I T : Nat → Bool} {b md td : Int} {ag : Bool} {pl : Int} (h : mAt K w q ia ta I T b md td ag pl) : q ≠ ta := fun e => by
  have h1 := h.1
  rw [e, h.2.2] at h1
  cases h1
theorem mAt.n3 {K : Nat → ClassId} {w : hm_M} {q ia ta : Nat} {I T : Nat → Bool} {b md td : Int} {ag : Bool} {pl : Int} (h : mAt K w q ia ta I T b md td ag pl) : ia ≠ ta := fun e => by
  have h1 := h.2.1
  rw [e, h.2.2] at h1
  simp at h1
theorem mM_I {K : Nat → ClassId} {w : hm_M} {q ia ta : Nat} {I T : Nat → Bool} {b md td : Int} {ag : Bool} {pl : Int} {J : Nat → Bool} (h1 : q ≠ ia) (h3 : ia ≠ ta) : hm_up (mM K w q ia ta I T b md td ag pl) ia (mE K J) = mM K w q ia ta J T b md td ag pl := by
  unfold mM; rw [hm_uc h1, hm_uc (Ne.symm h3), hm_uu]
theorem mM_T {K : Nat → ClassId} {w : hm_M} {q ia ta : Nat} {I T : Nat → Bool} {b md td : Int} {ag : Bool} {pl : Int} {U : Nat → Bool} (h2 : q ≠ ta) : hm_up (mM K w q ia ta I T b md td ag pl) ta (mT K U) = mM K w q ia ta I U b md td ag pl := by
  unfold mM; rw [hm_uc h2, hm_uu]
theorem mM_O {K : Nat → ClassId} {w : hm_M} {q ia ta : Nat} {I T : Nat → Bool} {b md td : Int} {ag : Bool} {pl : Int} {b2 md2 td2 : Int} {ag2 : Bool} {pl2 : Int} : hm_up (mM K w q ia ta I T b md td ag pl) q (mO ia ta b2 md2 td2 ag2 pl2) = mM K w q ia ta I T b2 md2 td2 ag2 pl2 := by
  unfold mM; rw [hm_uu]
theorem mM_id {K : Nat → ClassId} {w : hm_M} {q ia ta : Nat} {I T : Nat → Bool} {b md td : Int} {ag : Bool} {pl : Int} (h : mAt K w q ia ta I T b md td ag pl) : w = mM K w q ia ta I T b md td ag pl := by
  unfold mM; rw [hm_uid h.2.1, hm_uid h.2.2, hm_uid h.1]
theorem mAt_mM {K : Nat → ClassId} {w : hm_M} {q ia ta : Nat} {I T : Nat → Bool} {b md td : Int} {ag : Bool} {pl : Int} (h1 : q ≠ ia) (h2 : q ≠ ta) (h3 : ia ≠ ta) : mAt K (mM K w q ia ta I T b md td ag pl) q ia ta I T b md td ag pl := ⟨by unfold mM; exact hm_us, by unfold mM; rw [hm_un (Ne.symm h1), hm_un h3, hm_us], by unfold mM; rw [hm_un (Ne.symm h2), hm_us]⟩
theorem mM_mM {K : Nat → ClassId} {w : hm_M} {q ia ta : Nat} {I T : Nat → Bool} {b md td : Int} {ag : Bool} {pl : Int} {J U : Nat → Bool} {b2 md2 td2 : Int} {ag2 : Bool} {pl2 : Int} (h1 : q ≠ ia) (h2 : q ≠ ta) (h3 : ia ≠ ta) : mM K (mM K w q ia ta I T b md td ag pl) q ia ta J U b2 md2 td2 ag2 pl2 = mM K w q ia ta J U b2 md2 td2 ag2 pl2 := by
  have e1 : hm_up (mM K w q ia ta I T b md td ag pl) ia (mE K J) = mM K w q ia ta J T b md td ag pl := mM_I h1 h3
  show hm_up (hm_up (hm_up (mM K w q ia ta I T b md td ag pl) ia (mE K J)) ta (mT K U)) q _ = _
  rw [e1, mM_T h2, mM_O]
theorem mM_other {K : Nat → ClassId} {w : hm_M} {q ia ta : Nat} {I T : Nat → Bool} {b md td : Int} {ag : Bool} {pl : Int} {z : Nat} (h1 : z ≠ q) (h2 : z ≠ ia) (h3 : z ≠ ta) : mM K w q ia ta I T b md td ag pl z = w z := by
  unfold mM; rw [hm_un h1, hm_un h3, hm_un h2]
theorem mAt.up {K : Nat → ClassId} {w : hm_M} {q ia ta : Nat} {I T : Nat → Bool} {b md td : Int} {ag : Bool} {pl : Int} (h : mAt K w q ia ta I T b md td ag pl) (J : Nat → Bool) : mAt K (hm_up w ia (mE K J)) q ia ta J T b md td ag pl := ⟨by rw [hm_un h.n1]; exact h.1, hm_us, by rw [hm_un (Ne.symm h.n3)]; exact h.2.2⟩
set_option maxHeartbeats 4000000 in
set_option maxRecDepth 100000 in
theorem c7_size (l : Launch) (D : va_G) (K : Nat → ClassId) {w : hm_M} {q ia ta : Nat} {I T : Nat → Bool} {b md td : Int} {ag : Bool} {pl : Int} (hm : mAt K w q ia ta I T b md td ag pl) (hb0 : 0 ≤ b) (hb1 : b ≤ 8210)  : hm_Ci l D K yX7_size cX7_size 1 .int 0 [.ref (q)] w 0 0 (fun r w2 => r = iI b ∧ w2 = w) := by
  refine hm_enterI (by decide) (Nat.le_of_ble_eq_true rfl) ?_
  intro p e s m args below meth c E hr hnm
  show hm_V p l e (hm_rm 0 0 0) s m args below meth c D (hm_A w s.heap.size) 1 0 0 (MQ below (hm_Qi D w s.heap.size (fun r w2 => r = iI b ∧ w2 = w)) args s 0 0 (hm_A w s.heap.size)) w 0 [(0, .ref (q))] []
  refine hv_aload_n E dX7_size_0 rfl 0 rfl rfl ?_
  refine hv_get (kf := 2) E dX7_size_1 (show vwCl[6]? = some (RX7, TX7, 7) from rfl) (by decide) gW_X7 gF_X7_70 rfl hm.1 rfl rfl ?_
  exact hv_iret E dX7_size_4 hr ⟨rfl, rfl⟩
set_option maxHeartbeats 4000000 in
set_option maxRecDepth 100000 in
theorem c7_bit (l : Launch) (D : va_G) (K : Nat → ClassId) {w : hm_M} {q ia ta : Nat} {I T : Nat → Bool} {b md td : Int} {ag : Bool} {pl : Int} (i : Int) (hi : iB i) (hm : mAt K w q ia ta I T b md td ag pl) (hb0 : 0 ≤ b) (hb1 : b ≤ 8210)  : hm_Ci l D K yX7_bit cX7_bit 2 .int 1 [.ref (q), .int (iI (i))] w 0 0 (fun r w2 => r = iI (if 0 ≤ i ∧ i < b then (if T i.toNat then 1 else 0) else -1) ∧ w2 = w) := by
  refine hm_enterI (by decide) (Nat.le_of_ble_eq_true rfl) ?_
  intro p e s m args below meth c E hr hnm
  show hm_V p l e (hm_rm 1 0 0) s m args below meth c D (hm_A w s.heap.size) 2 0 0 (MQ below (hm_Qi D w s.heap.size (fun r w2 => r = iI (if 0 ≤ i ∧ i < b then (if T i.toNat then 1 else 0) else -1) ∧ w2 = w)) args s 0 0 (hm_A w s.heap.size)) w 0 [(0, .ref (q)), (1, .int (iI (i)))] []
  refine hv_iload_n E dX7_bit_0 rfl 1 rfl rfl ?_
  refine hv_iconst E dX7_bit_1 rfl ?_
  refine hv_aload_n E dX7_bit_2 rfl 0 rfl rfl ?_
  refine hv_get (kf := 2) E dX7_bit_3 (show vwCl[6]? = some (RX7, TX7, 7) from rfl) (by decide) gW_X7 gF_X7_70 rfl hm.1 rfl rfl ?_
  refine hv_iconst E dX7_bit_6 rfl ?_
  refine hv_isub E dX7_bit_7 rfl ?_
  refine hv_callSI (na := 3) (As := [.int (iI (i)), .int (iI (0)), .int (iI (b - 1))]) (st := []) E (c7_within l D K i 0 (b - 1) hi ⟨by omega, by omega⟩ ⟨by omega, by omega⟩) dX7_bit_8 gL_X7_17 gS_X7_within gC_X7_within gZ_X7 (by decide +kernel) rfl ⟨Nat.le_of_ble_eq_true rfl, Nat.le_of_ble_eq_true rfl⟩ (Nat.le_of_ble_eq_true rfl) ⟨Nat.zero_le _, Nat.zero_le _⟩ rfl rfl (fun r w2 hp => ?_)
  rw [hp.1, hp.2]
  show hm_V p l e (hm_rm 1 0 0) s m args below meth c D (hm_A w s.heap.size) 2 0 0 (MQ below (hm_Qi D w s.heap.size (fun r w2 => r = iI (if 0 ≤ i ∧ i < b then (if T i.toNat then 1 else 0) else -1) ∧ w2 = w)) args s 0 0 (hm_A w s.heap.size)) w 11 [(0, .ref (q)), (1, .int (iI (i)))] [.int (bI (decide (0 ≤ i ∧ i ≤ (b - 1))))]
  refine hv_if_neB E 18 dX7_bit_11 (by decide) rfl (fun c1 => ?_) (fun c1 => ?_)
  · have c1 := of_decide_eq_true c1
    refine hv_aload_n E dX7_bit_18 rfl 0 rfl rfl ?_
    refine hv_get (kf := 1) E dX7_bit_19 (show vwCl[6]? = some (RX7, TX7, 7) from rfl) (by decide) gW_X7 gF_X7_14 rfl hm.1 rfl rfl ?_
    refine hv_iload_n E dX7_bit_22 rfl 1 rfl rfl ?_
    refine hv_zald E dX7_bit_23 hm.2.2 (by omega) (by omega) (by decide) rfl ?_
    refine hv_if_eqB E 31 dX7_bit_24 (by decide) rfl (fun c2 => ?_) (fun c2 => ?_)
    · refine hv_iconst E dX7_bit_31 rfl ?_
      exact hv_iret E dX7_bit_32 hr ⟨by rw [if_pos (by omega), c2]; rfl, rfl⟩
    · refine hv_iconst E dX7_bit_27 rfl ?_
      refine hv_goto E 32 dX7_bit_28 (by decide) ?_
      exact hv_iret E dX7_bit_32 hr ⟨by rw [if_pos (by omega), c2]; rfl, rfl⟩
  · have c1 := of_decide_eq_false c1
    refine hv_iconst E dX7_bit_14 rfl ?_
    refine hv_goto E 32 dX7_bit_15 (by decide) ?_
    exact hv_iret E dX7_bit_32 hr ⟨(by (repeat (first | rw [if_pos (by omega)] | rw [if_neg (by omega)])) <;> first | done | rfl), rfl⟩
set_option maxHeartbeats 4000000 in
set_option maxRecDepth 100000 in
theorem c7_cut (l : Launch) (D : va_G) (K : Nat → ClassId) {w : hm_M} {q ia ta : Nat} {I T : Nat → Bool} {b md td : Int} {ag : Bool} {pl : Int} (n : Int) (hn : iB n) (hm : mAt K w q ia ta I T b md td ag pl) (hb0 : 0 ≤ b) (hb1 : b ≤ 8210)  : hm_Ci l D K yX7_cut cX7_cut 3 .int 1 [.ref (q), .int (iI (n))] w 0 0 (fun r w2 => r = iI (if 0 ≤ n ∧ n ≤ b then b - n else -3) ∧ w2 = mM K w q ia ta I T (if 0 ≤ n ∧ n ≤ b then n else b) md td ag pl) := by
  refine hm_enterI (by decide) (Nat.le_of_ble_eq_true rfl) ?_
  intro p e s m args below meth c E hr hnm
  show hm_V p l e (hm_rm 1 0 0) s m args below meth c D (hm_A w s.heap.size) 3 0 0 (MQ below (hm_Qi D w s.heap.size (fun r w2 => r = iI (if 0 ≤ n ∧ n ≤ b then b - n else -3) ∧ w2 = mM K w q ia ta I T (if 0 ≤ n ∧ n ≤ b then n else b) md td ag pl)) args s 0 0 (hm_A w s.heap.size)) w 0 [(0, .ref (q)), (1, .int (iI (n)))] []
  refine hv_iload_n E dX7_cut_0 rfl 1 rfl rfl ?_
  refine hv_iconst E dX7_cut_1 rfl ?_
  refine hv_aload_n E dX7_cut_2 rfl 0 rfl rfl ?_
  refine hv_get (kf := 2) E dX7_cut_3 (show vwCl[6]? = some (RX7, TX7, 7) from rfl) (by decide) gW_X7 gF_X7_70 rfl hm.1 rfl rfl ?_
  refine hv_callSI (na := 3) (As := [.int (iI (n)), .int (iI (0)), .int (iI (b))]) (st := []) E (c7_within l D K n 0 b hn ⟨by omega, by omega⟩ ⟨by omega, by omega⟩) dX7_cut_6 gL_X7_17 gS_X7_within gC_X7_within gZ_X7 (by decide +kernel) rfl ⟨Nat.le_of_ble_eq_true rfl, Nat.le_of_ble_eq_true rfl⟩ (Nat.le_of_ble_eq_true rfl) ⟨Nat.zero_le _, Nat.zero_le _⟩ rfl rfl (fun r w2 hp => ?_)
  rw [hp.1, hp.2]
  show hm_V p l e (hm_rm 1 0 0) s m args below meth c D (hm_A w s.heap.size) 3 0 0 (MQ below (hm_Qi D w s.heap.size (fun r w2 => r = iI (if 0 ≤ n ∧ n ≤ b then b - n else -3) ∧ w2 = mM K w q ia ta I T (if 0 ≤ n ∧ n ≤ b then n else b) md td ag pl)) args s 0 0 (hm_A w s.heap.size)) w 9 [(0, .ref (q)), (1, .int (iI (n)))] [.int (bI (decide (0 ≤ n ∧ n ≤ b)))]
  refine hv_if_neB E 15 dX7_cut_9 (by decide) rfl (fun c1 => ?_) (fun c1 => ?_)
  · have c1 := of_decide_eq_true c1
    refine hv_aload_n E dX7_cut_15 rfl 0 rfl rfl ?_
    refine hv_get (kf := 2) E dX7_cut_16 (show vwCl[6]? = some (RX7, TX7, 7) from rfl) (by decide) gW_X7 gF_X7_70 rfl hm.1 rfl rfl ?_
    refine hv_iload_n E dX7_cut_19 rfl 1 rfl rfl ?_
    refine hv_isub E dX7_cut_20 rfl ?_
    refine hv_istore_n (lv2 := [(2, .int (iI (b - n))), (0, .ref (q)), (1, .int (iI (n)))]) E dX7_cut_21 rfl (by decide) rfl rfl ?_
    refine hv_aload_n E dX7_cut_22 rfl 1 rfl rfl ?_
    refine hv_iload_n E dX7_cut_23 rfl 2 rfl rfl ?_
    refine hv_put (kf := 2) (ty0 := tyX7) E dX7_cut_24 (show vwCl[6]? = some (RX7, TX7, 7) from rfl) (by decide) gW_X7 tyX7_ok nmX7 gF_X7_70 rfl hm.1 rfl rfl rfl (Nat.le_of_ble_eq_true rfl) rfl ?_
    show hm_V p l e (hm_rm 1 0 0) s m args below meth c D (hm_A w s.heap.size) 3 0 0 (MQ below (hm_Qi D w s.heap.size (fun r w2 => r = iI (if 0 ≤ n ∧ n ≤ b then b - n else -3) ∧ w2 = mM K w q ia ta I T (if 0 ≤ n ∧ n ≤ b then n else b) md td ag pl)) args s 0 0 (hm_A w s.heap.size)) (hm_up w q (.inr (6, [.ref ia, .ref ta, .int (iI (n)), .int (iI (md)), .int (iI (td)), .int (bI (ag)), .int (iI (pl))]))) 27 [(2, .int (iI (b - n))), (0, .ref (q)), (1, .int (iI (n)))] []
    refine hv_iload_n E dX7_cut_27 rfl 0 rfl rfl ?_
    exact hv_iret E dX7_cut_28 hr ⟨(by (repeat (first | rw [if_pos (by omega)] | rw [if_neg (by omega)])) <;> first | done | rfl), by
          rw [if_pos (by omega)]
          have h9 := mM_O (K := K) (w := w) (q := q) (ia := ia) (ta := ta) (I := I) (T := T) (b := b) (md := md) (td := td) (ag := ag) (pl := pl) (b2 := n) (md2 := md) (td2 := td) (ag2 := ag) (pl2 := pl)
          rw [← mM_id hm] at h9; exact h9⟩
  · have c1 := of_decide_eq_false c1
    refine hv_bipush E dX7_cut_12 (by decide +kernel) rfl ?_
    exact hv_iret E dX7_cut_14 hr ⟨(by (repeat (first | rw [if_pos (by omega)] | rw [if_neg (by omega)])) <;> first | done | rfl), by rw [if_neg (by omega)]; exact mM_id hm⟩
set_option maxHeartbeats 4000000 in
set_option maxRecDepth 100000 in
theorem c7_flip (l : Launch) (D : va_G) (K : Nat → ClassId) {w : hm_M} {q ia ta : Nat} {I T : Nat → Bool} {b md td : Int} {ag : Bool} {pl : Int} (i : Int) (hi : iB i) (hm : mAt K w q ia ta I T b md td ag pl) (hb0 : 0 ≤ b) (hb1 : b ≤ 8210)  : hm_Ci l D K yX7_flip cX7_flip 2 .int 1 [.ref (q), .int (iI (i))] w 0 0 (fun r w2 => r = iI (if 0 ≤ i ∧ i < b then (if T i.toNat then 0 else 1) else -1) ∧ w2 = mM K w q ia ta I (if 0 ≤ i ∧ i < b then va_up T i.toNat (!T i.toNat) else T) b md td ag pl) := by
  refine hm_enterI (by decide) (Nat.le_of_ble_eq_true rfl) ?_
  intro p e s m args below meth c E hr hnm
  show hm_V p l e (hm_rm 1 0 0) s m args below meth c D (hm_A w s.heap.size) 2 0 0 (MQ below (hm_Qi D w s.heap.size (fun r w2 => r = iI (if 0 ≤ i ∧ i < b then (if T i.toNat then 0 else 1) else -1) ∧ w2 = mM K w q ia ta I (if 0 ≤ i ∧ i < b then va_up T i.toNat (!T i.toNat) else T) b md td ag pl)) args s 0 0 (hm_A w s.heap.size)) w 0 [(0, .ref (q)), (1, .int (iI (i)))] []
  refine hv_iload_n E dX7_flip_0 rfl 1 rfl rfl ?_
  refine hv_iconst E dX7_flip_1 rfl ?_
  refine hv_aload_n E dX7_flip_2 rfl 0 rfl rfl ?_
  refine hv_get (kf := 2) E dX7_flip_3 (show vwCl[6]? = some (RX7, TX7, 7) from rfl) (by decide) gW_X7 gF_X7_70 rfl hm.1 rfl rfl ?_
  refine hv_iconst E dX7_flip_6 rfl ?_
  refine hv_isub E dX7_flip_7 rfl ?_
  refine hv_callSI (na := 3) (As := [.int (iI (i)), .int (iI (0)), .int (iI (b - 1))]) (st := []) E (c7_within l D K i 0 (b - 1) hi ⟨by omega, by omega⟩ ⟨by omega, by omega⟩) dX7_flip_8 gL_X7_17 gS_X7_within gC_X7_within gZ_X7 (by decide +kernel) rfl ⟨Nat.le_of_ble_eq_true rfl, Nat.le_of_ble_eq_true rfl⟩ (Nat.le_of_ble_eq_true rfl) ⟨Nat.zero_le _, Nat.zero_le _⟩ rfl rfl (fun r w2 hp => ?_)
  rw [hp.1, hp.2]
  show hm_V p l e (hm_rm 1 0 0) s m args below meth c D (hm_A w s.heap.size) 2 0 0 (MQ below (hm_Qi D w s.heap.size (fun r w2 => r = iI (if 0 ≤ i ∧ i < b then (if T i.toNat then 0 else 1) else -1) ∧ w2 = mM K w q ia ta I (if 0 ≤ i ∧ i < b then va_up T i.toNat (!T i.toNat) else T) b md td ag pl)) args s 0 0 (hm_A w s.heap.size)) w 11 [(0, .ref (q)), (1, .int (iI (i)))] [.int (bI (decide (0 ≤ i ∧ i ≤ (b - 1))))]
  refine hv_if_neB E 16 dX7_flip_11 (by decide) rfl (fun c1 => ?_) (fun c1 => ?_)
  · have c1 := of_decide_eq_true c1
    refine hv_aload_n E dX7_flip_16 rfl 0 rfl rfl ?_
    refine hv_get (kf := 1) E dX7_flip_17 (show vwCl[6]? = some (RX7, TX7, 7) from rfl) (by decide) gW_X7 gF_X7_14 rfl hm.1 rfl rfl ?_
    refine hv_iload_n E dX7_flip_20 rfl 1 rfl rfl ?_
    refine hv_aload_n E dX7_flip_21 rfl 0 rfl rfl ?_
    refine hv_get (kf := 1) E dX7_flip_22 (show vwCl[6]? = some (RX7, TX7, 7) from rfl) (by decide) gW_X7 gF_X7_14 rfl hm.1 rfl rfl ?_
    refine hv_iload_n E dX7_flip_25 rfl 1 rfl rfl ?_
    refine hv_zald E dX7_flip_26 hm.2.2 (by omega) (by omega) (by decide) rfl ?_
    refine hv_if_neB E 34 dX7_flip_27 (by decide) rfl (fun c2 => ?_) (fun c2 => ?_)
    · refine hv_iconst E dX7_flip_34 rfl ?_
      refine hv_topi (show iI (0) = bI (false) from rfl) ?_
      refine hv_zast E dX7_flip_35 hm.2.2 (by omega) (by omega) (by decide) rfl ?_
      have hm2 : mAt K (hm_up w ta (mT K (va_up T i.toNat false))) q ia ta I (va_up T i.toNat false) b md td ag pl := ⟨by rw [hm_un hm.n2]; exact hm.1, by rw [hm_un hm.n3]; exact hm.2.1, hm_us⟩
      refine hv_aload_n E dX7_flip_36 rfl 0 rfl rfl ?_
      refine hv_get (kf := 1) E dX7_flip_37 (show vwCl[6]? = some (RX7, TX7, 7) from rfl) (by decide) gW_X7 gF_X7_14 rfl hm2.1 rfl rfl ?_
      refine hv_iload_n E dX7_flip_40 rfl 1 rfl rfl ?_
      refine hv_zald E dX7_flip_41 hm2.2.2 (by omega) (by omega) (by decide) rfl ?_
      refine hv_if_eqB E 49 dX7_flip_42 (by decide) rfl (fun c3 => ?_) (fun c3 => ?_)
      · refine hv_iconst E dX7_flip_49 rfl ?_
        exact hv_iret E dX7_flip_50 hr ⟨by
              have hh := c3
              rw [va_up_self] at hh
              first | (cases hh; done) | (rw [if_pos (by omega), c2]; rfl), by
              rw [if_pos (by omega)]
              have h9 := mM_T (K := K) (w := w) (q := q) (ia := ia) (ta := ta) (I := I) (T := T) (b := b) (md := md) (td := td) (ag := ag) (pl := pl) (U := va_up T i.toNat false) hm.n2
              rw [← mM_id hm] at h9
              rw [h9, c2]; rfl⟩
      · refine hv_iconst E dX7_flip_45 rfl ?_
        refine hv_goto E 50 dX7_flip_46 (by decide) ?_
        exact hv_iret E dX7_flip_50 hr ⟨by
              have hh := c3
              rw [va_up_self] at hh
              first | (cases hh; done) | (rw [if_pos (by omega), c2]; rfl), by
              rw [if_pos (by omega)]
              have h9 := mM_T (K := K) (w := w) (q := q) (ia := ia) (ta := ta) (I := I) (T := T) (b := b) (md := md) (td := td) (ag := ag) (pl := pl) (U := va_up T i.toNat false) hm.n2
              rw [← mM_id hm] at h9
              rw [h9, c2]; rfl⟩
    · refine hv_iconst E dX7_flip_30 rfl ?_
      refine hv_goto E 35 dX7_flip_31 (by decide) ?_
      refine hv_topi (show iI (1) = bI (true) from rfl) ?_
      refine hv_zast E dX7_flip_35 hm.2.2 (by omega) (by omega) (by decide) rfl ?_
      have hm2 : mAt K (hm_up w ta (mT K (va_up T i.toNat true))) q ia ta I (va_up T i.toNat true) b md td ag pl := ⟨by rw [hm_un hm.n2]; exact hm.1, by rw [hm_un hm.n3]; exact hm.2.1, hm_us⟩
      refine hv_aload_n E dX7_flip_36 rfl 0 rfl rfl ?_
      refine hv_get (kf := 1) E dX7_flip_37 (show vwCl[6]? = some (RX7, TX7, 7) from rfl) (by decide) gW_X7 gF_X7_14 rfl hm2.1 rfl rfl ?_
      refine hv_iload_n E dX7_flip_40 rfl 1 rfl rfl ?_
      refine hv_zald E dX7_flip_41 hm2.2.2 (by omega) (by omega) (by decide) rfl ?_
      refine hv_if_eqB E 49 dX7_flip_42 (by decide) rfl (fun c4 => ?_) (fun c4 => ?_)
      · refine hv_iconst E dX7_flip_49 rfl ?_
        exact hv_iret E dX7_flip_50 hr ⟨by
              have hh := c4
              rw [va_up_self] at hh
              first | (cases hh; done) | (rw [if_pos (by omega), c2]; rfl), by
              rw [if_pos (by omega)]
              have h9 := mM_T (K := K) (w := w) (q := q) (ia := ia) (ta := ta) (I := I) (T := T) (b := b) (md := md) (td := td) (ag := ag) (pl := pl) (U := va_up T i.toNat true) hm.n2
              rw [← mM_id hm] at h9
              rw [h9, c2]; rfl⟩
      · refine hv_iconst E dX7_flip_45 rfl ?_
        refine hv_goto E 50 dX7_flip_46 (by decide) ?_
        exact hv_iret E dX7_flip_50 hr ⟨by
              have hh := c4
              rw [va_up_self] at hh
              first | (cases hh; done) | (rw [if_pos (by omega), c2]; rfl), by
              rw [if_pos (by omega)]
              have h9 := mM_T (K := K) (w := w) (q := q) (ia := ia) (ta := ta) (I := I) (T := T) (b := b) (md := md) (td := td) (ag := ag) (pl := pl) (U := va_up T i.toNat true) hm.n2
              rw [← mM_id hm] at h9
              rw [h9, c2]; rfl⟩
  · have c1 := of_decide_eq_false c1
    refine hv_iconst E dX7_flip_14 rfl ?_
    exact hv_iret E dX7_flip_15 hr ⟨(by (repeat (first | rw [if_pos (by omega)] | rw [if_neg (by omega)])) <;> first | done | rfl), by rw [if_neg (by omega)]; exact mM_id hm⟩
set_option maxHeartbeats 4000000 in
set_option maxRecDepth 100000 in
theorem c7_sign (l : Launch) (D : va_G) (K : Nat → ClassId) {w : hm_M} {q ia ta : Nat} {I T : Nat → Bool} {b md td : Int} {ag : Bool} {pl : Int} (y : Bool) (hm : mAt K w q ia ta I T b md td ag pl) (hb0 : 0 ≤ b) (hb1 : b ≤ 8210)  : hm_Ci l D K yX7_sign cX7_sign 2 .int 0 [.ref (q), .int (bI (y))] w 0 0 (fun r w2 => r = iI (if b < 8210 then b + 1 else -4) ∧ w2 = mM K w q ia ta I (if b < 8210 then va_up T b.toNat y else T) (if b < 8210 then b + 1 else b) md td ag pl) := by
  refine hm_enterI (by decide) (Nat.le_of_ble_eq_true rfl) ?_
  intro p e s m args below meth c E hr hnm
  show hm_V p l e (hm_rm 0 0 0) s m args below meth c D (hm_A w s.heap.size) 2 0 0 (MQ below (hm_Qi D w s.heap.size (fun r w2 => r = iI (if b < 8210 then b + 1 else -4) ∧ w2 = mM K w q ia ta I (if b < 8210 then va_up T b.toNat y else T) (if b < 8210 then b + 1 else b) md td ag pl)) args s 0 0 (hm_A w s.heap.size)) w 0 [(0, .ref (q)), (1, .int (bI (y)))] []
  refine hv_aload_n E dX7_sign_0 rfl 0 rfl rfl ?_
  refine hv_get (kf := 2) E dX7_sign_1 (show vwCl[6]? = some (RX7, TX7, 7) from rfl) (by decide) gW_X7 gF_X7_70 rfl hm.1 rfl rfl ?_
  refine hv_sipush E dX7_sign_4 (by decide +kernel) rfl ?_
  refine hv_icmp_ne E 13 dX7_sign_7 (by decide) ⟨by omega, by omega⟩ ⟨by omega, by omega⟩ rfl (fun c1 => ?_) (fun c1 => ?_)
  · skip
    refine hv_aload_n E dX7_sign_13 rfl 0 rfl rfl ?_
    refine hv_get (kf := 1) E dX7_sign_14 (show vwCl[6]? = some (RX7, TX7, 7) from rfl) (by decide) gW_X7 gF_X7_14 rfl hm.1 rfl rfl ?_
    refine hv_aload_n E dX7_sign_17 rfl 0 rfl rfl ?_
    refine hv_get (kf := 2) E dX7_sign_18 (show vwCl[6]? = some (RX7, TX7, 7) from rfl) (by decide) gW_X7 gF_X7_70 rfl hm.1 rfl rfl ?_
    refine hv_iload_n E dX7_sign_21 rfl 1 rfl rfl ?_
    refine hv_zast E dX7_sign_22 hm.2.2 (by omega) (by omega) (by decide) rfl ?_
    refine hv_mem (show hm_up w ta (mT K (va_up T b.toNat y)) = mM K w q ia ta I (va_up T b.toNat y) b md td ag pl from (by
          have h9 := mM_T (K := K) (w := w) (q := q) (ia := ia) (ta := ta) (I := I) (T := T) (b := b) (md := md) (td := td) (ag := ag) (pl := pl) (U := va_up T b.toNat y) hm.n2
          rw [← mM_id hm] at h9; exact h9)) ?_
    have hm2 := mAt_mM (K := K) (w := w) (I := I) (T := va_up T b.toNat y) (b := b) (md := md) (td := td) (ag := ag) (pl := pl) hm.n1 hm.n2 hm.n3
    refine hv_aload_n E dX7_sign_23 rfl 0 rfl rfl ?_
    refine hv_dup E dX7_sign_24 rfl rfl ?_
    refine hv_get (kf := 2) E dX7_sign_25 (show vwCl[6]? = some (RX7, TX7, 7) from rfl) (by decide) gW_X7 gF_X7_70 rfl hm2.1 rfl rfl ?_
    refine hv_iconst E dX7_sign_28 rfl ?_
    refine hv_iadd E dX7_sign_29 rfl ?_
    refine hv_put (kf := 2) (ty0 := tyX7) E dX7_sign_30 (show vwCl[6]? = some (RX7, TX7, 7) from rfl) (by decide) gW_X7 tyX7_ok nmX7 gF_X7_70 rfl hm2.1 rfl rfl rfl (Nat.le_of_ble_eq_true rfl) rfl ?_
    show hm_V p l e (hm_rm 0 0 0) s m args below meth c D (hm_A w s.heap.size) 2 0 0 (MQ below (hm_Qi D w s.heap.size (fun r w2 => r = iI (if b < 8210 then b + 1 else -4) ∧ w2 = mM K w q ia ta I (if b < 8210 then va_up T b.toNat y else T) (if b < 8210 then b + 1 else b) md td ag pl)) args s 0 0 (hm_A w s.heap.size)) (hm_up (mM K w q ia ta I (va_up T b.toNat y) b md td ag pl) q (.inr (6, [.ref ia, .ref ta, .int (iI (b + 1)), .int (iI (md)), .int (iI (td)), .int (bI (ag)), .int (iI (pl))]))) 33 [(0, .ref (q)), (1, .int (bI (y)))] []
    refine hv_mem (show hm_up (mM K w q ia ta I (va_up T b.toNat y) b md td ag pl) q (.inr (6, [.ref ia, .ref ta, .int (iI (b + 1)), .int (iI (md)), .int (iI (td)), .int (bI (ag)), .int (iI (pl))])) = mM K w q ia ta I (va_up T b.toNat y) (b + 1) md td ag pl from mM_O) ?_
    have hm3 := mAt_mM (K := K) (w := w) (I := I) (T := va_up T b.toNat y) (b := b + 1) (md := md) (td := td) (ag := ag) (pl := pl) hm.n1 hm.n2 hm.n3
    refine hv_aload_n E dX7_sign_33 rfl 0 rfl rfl ?_
    refine hv_get (kf := 2) E dX7_sign_34 (show vwCl[6]? = some (RX7, TX7, 7) from rfl) (by decide) gW_X7 gF_X7_70 rfl hm3.1 rfl rfl ?_
    exact hv_iret E dX7_sign_37 hr ⟨(by (repeat (first | rw [if_pos (by omega)] | rw [if_neg (by omega)])) <;> first | done | rfl), by rw [if_pos (by omega), if_pos (by omega)]⟩
  · skip
    refine hv_bipush E dX7_sign_10 (by decide +kernel) rfl ?_
    exact hv_iret E dX7_sign_12 hr ⟨(by (repeat (first | rw [if_pos (by omega)] | rw [if_neg (by omega)])) <;> first | done | rfl), by rw [if_neg (by omega), if_neg (by omega)]; exact mM_id hm⟩
