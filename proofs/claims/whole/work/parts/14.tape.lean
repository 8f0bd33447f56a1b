/-- the tape's object at t, its words f at tw, L bits, read up to P -/
def tAt (K : Nat → ClassId) (w : hm_M) (t tw : Nat) (f : Nat → Int32) (L P : Int) : Prop := w t = some (.inr (3, [.ref tw, .int (iI L), .int (iI P)])) ∧ w tw = some (.inl (K 0, 257, .inl f))
def tM (K : Nat → ClassId) (w : hm_M) (t tw : Nat) (f : Nat → Int32) (L P : Int) : hm_M := hm_up (hm_up w tw (.inl (K 0, 257, .inl f))) t (.inr (3, [.ref tw, .int (iI L), .int (iI P)]))
theorem tAt.ne {K : Nat → ClassId} {w : hm_M} {t tw : Nat} {f : Nat → Int32} {L P : Int} (h : tAt K w t tw f L P) : t ≠ tw := fun e => by
  have h1 := h.1
  rw [e, h.2] at h1
  cases h1
theorem tM_words {K : Nat → ClassId} {w : hm_M} {t tw : Nat} {f g : Nat → Int32} {L P : Int} (h : t ≠ tw) : hm_up (tM K w t tw f L P) tw (.inl (K 0, 257, .inl g)) = tM K w t tw g L P := by
  unfold tM; rw [hm_uc h, hm_uu]
theorem tM_obj {K : Nat → ClassId} {w : hm_M} {t tw : Nat} {f : Nat → Int32} {L P L2 P2 : Int} : hm_up (tM K w t tw f L P) t (.inr (3, [.ref tw, .int (iI L2), .int (iI P2)])) = tM K w t tw f L2 P2 := by
  unfold tM; rw [hm_uu]
theorem tM_id {K : Nat → ClassId} {w : hm_M} {t tw : Nat} {f : Nat → Int32} {L P : Int} (h : tAt K w t tw f L P) : w = tM K w t tw f L P := by
  unfold tM; rw [hm_uid h.2, hm_uid h.1]
theorem tAt_tM {K : Nat → ClassId} {w : hm_M} {t tw : Nat} {f : Nat → Int32} {L P : Int} (h : t ≠ tw) : tAt K (tM K w t tw f L P) t tw f L P := ⟨by unfold tM; exact hm_us, by unfold tM; rw [hm_un (Ne.symm h), hm_us]⟩
theorem tM_tM {K : Nat → ClassId} {w : hm_M} {t tw : Nat} {f g : Nat → Int32} {L P L2 P2 : Int} (h : t ≠ tw) : tM K (tM K w t tw f L P) t tw g L2 P2 = tM K w t tw g L2 P2 := by
  have h1 : hm_up (tM K w t tw f L P) tw (.inl (K 0, 257, .inl g)) = tM K w t tw g L P := tM_words h
  show hm_up (hm_up (tM K w t tw f L P) tw _) t _ = _
  rw [h1, tM_obj]
theorem tM_other {K : Nat → ClassId} {w : hm_M} {t tw q : Nat} {f : Nat → Int32} {L P : Int} (h1 : q ≠ t) (h2 : q ≠ tw) : tM K w t tw f L P q = w q := by
  unfold tM; rw [hm_un h1, hm_un h2]
/-- bit i of the tape; 0 behind its end -/
def tb (f : Nat → Int32) (L : Int) (i : Nat) : Bool := decide ((i : Int) < L) && mem f i
/-- the number that n bits from a on tell, the highest one first -/
def bv (b : Nat → Bool) (a : Nat) : Nat → Nat
  | 0 => 0
  | n + 1 => 2 * bv b a n + (if b (a + n) then 1 else 0)
theorem bv_lt (b : Nat → Bool) (a n : Nat) : bv b a n < 2 ^ n := by
  induction n with
  | zero => simp [bv]
  | succ n ih => simp only [bv]; rw [Nat.pow_succ]; split <;> omega
theorem or_bit (z : Int) (h0 : 0 ≤ z) (h1 : z < 1073741824) (c : Bool) : (iI z <<< (iI 1 &&& 31)) ||| bI c = iI (2 * z + (if c then 1 else 0)) := by
  have e1 : iI z <<< (iI 1 &&& 31) = iI (z * 2 ^ 1) := iI_shl z 1 (by omega)
  rw [e1]
  apply Int32.toBitVec_inj.mp
  apply BitVec.eq_of_toNat_eq
  rw [Int32.toBitVec_or, BitVec.toNat_or]
  have n1 : (iI (z * 2 ^ 1)).toBitVec.toNat = 2 * z.toNat := by
    rw [iI_bv, BitVec.toNat_ofInt]; omega
  have n2 : (bI c).toBitVec.toNat = (if c then 1 else 0) := by cases c <;> decide +kernel
  have n3 : (iI (2 * z + (if c then 1 else 0))).toBitVec.toNat = 2 * z.toNat + (if c then 1 else 0) := by
    rw [iI_bv, BitVec.toNat_ofInt]; cases c <;> simp <;> omega
  rw [n1, n2, n3]
  have := Nat.two_pow_add_eq_or_of_lt (i := 1) (b := if c then 1 else 0) (by cases c <;> decide) z.toNat
  rw [Nat.pow_one] at this
  rw [this]
set_option maxHeartbeats 4000000 in
set_option maxRecDepth 100000 in
theorem c4_held (l : Launch) (D : va_G) (K : Nat → ClassId) {w : hm_M} {t tw : Nat} {f : Nat → Int32} {L P : Int} (ht : tAt K w t tw f L P)  : hm_Ci l D K yX4_held cX4_held 1 .int 0 [.ref (t)] w 0 0 (fun r w2 => r = iI L ∧ w2 = w) := by
  refine hm_enterI (by decide) (Nat.le_of_ble_eq_true rfl) ?_
  intro p e s m args below meth c E hr hnm
  show hm_V p l e (hm_rm 0 0 0) s m args below meth c D (hm_A w s.heap.size) 1 0 0 (MQ below (hm_Qi D w s.heap.size (fun r w2 => r = iI L ∧ w2 = w)) args s 0 0 (hm_A w s.heap.size)) w 0 [(0, .ref (t))] []
  refine hv_aload_n E dX4_held_0 rfl 0 rfl rfl ?_
  refine hv_get (kf := 1) E dX4_held_1 (show vwCl[3]? = some (RX4, TX4, 3) from rfl) (by decide) gW_X4 gF_X4_15 rfl ht.1 rfl rfl ?_
  exact hv_iret E dX4_held_4 hr ⟨rfl, rfl⟩
set_option maxHeartbeats 4000000 in
set_option maxRecDepth 100000 in
theorem c4_reaches (l : Launch) (D : va_G) (K : Nat → ClassId) {w : hm_M} {t tw : Nat} {f : Nat → Int32} {L P : Int} (i : Int) (hi : iB i) (ht : tAt K w t tw f L P) (hL0 : 0 ≤ L) (hL1 : L ≤ 8210)  : hm_Ci l D K yX4_reaches cX4_reaches 2 .boolean 0 [.ref (t), .int (iI (i))] w 0 0 (fun r w2 => r = bI (decide (0 ≤ i ∧ i < L)) ∧ w2 = w) := by
  refine hm_enterI (by decide) (Nat.le_of_ble_eq_true rfl) ?_
  intro p e s m args below meth c E hr hnm
  show hm_V p l e (hm_rm 0 0 0) s m args below meth c D (hm_A w s.heap.size) 2 0 0 (MQ below (hm_Qi D w s.heap.size (fun r w2 => r = bI (decide (0 ≤ i ∧ i < L)) ∧ w2 = w)) args s 0 0 (hm_A w s.heap.size)) w 0 [(0, .ref (t)), (1, .int (iI (i)))] []
  refine hv_iload_n E dX4_reaches_0 rfl 1 rfl rfl ?_
  refine hv_if_lt E 16 dX4_reaches_1 (by decide) hi rfl (fun h1 => ?_) (fun h1 => ?_)
  · refine hv_iconst E dX4_reaches_16 rfl ?_
    refine hv_topi (show iI (0) = bI (false) from rfl) ?_
    exact hv_zret E dX4_reaches_17 hr ⟨by rw [decide_eq_false (by omega)], rfl⟩
  · refine hv_iload_n E dX4_reaches_4 rfl 1 rfl rfl ?_
    refine hv_aload_n E dX4_reaches_5 rfl 0 rfl rfl ?_
    refine hv_get (kf := 1) E dX4_reaches_6 (show vwCl[3]? = some (RX4, TX4, 3) from rfl) (by decide) gW_X4 gF_X4_15 rfl ht.1 rfl rfl ?_
    refine hv_icmp_ge E 16 dX4_reaches_9 (by decide) hi ⟨by omega, by omega⟩ rfl (fun h2 => ?_) (fun h2 => ?_)
    · refine hv_iconst E dX4_reaches_16 rfl ?_
      refine hv_topi (show iI (0) = bI (false) from rfl) ?_
      exact hv_zret E dX4_reaches_17 hr ⟨by rw [decide_eq_false (by omega)], rfl⟩
    · refine hv_iconst E dX4_reaches_12 rfl ?_
      refine hv_goto E 17 dX4_reaches_13 (by decide) ?_
      refine hv_topi (show iI (1) = bI (true) from rfl) ?_
      exact hv_zret E dX4_reaches_17 hr ⟨by rw [decide_eq_true (by omega)], rfl⟩
set_option maxHeartbeats 4000000 in
set_option maxRecDepth 100000 in
theorem c4_bitAt (l : Launch) (D : va_G) (K : Nat → ClassId) {w : hm_M} {t tw : Nat} {f : Nat → Int32} {L P : Int} (i : Int) (hi : iB i) (ht : tAt K w t tw f L P) (hL0 : 0 ≤ L) (hL1 : L ≤ 8210)  : hm_Ci l D K yX4_bitAt cX4_bitAt 2 .int 1 [.ref (t), .int (iI (i))] w 0 0 (fun r w2 => r = bI (decide (0 ≤ i) && tb f L i.toNat) ∧ w2 = w) := by
  refine hm_enterI (by decide) (Nat.le_of_ble_eq_true rfl) ?_
  intro p e s m args below meth c E hr hnm
  show hm_V p l e (hm_rm 1 0 0) s m args below meth c D (hm_A w s.heap.size) 2 0 0 (MQ below (hm_Qi D w s.heap.size (fun r w2 => r = bI (decide (0 ≤ i) && tb f L i.toNat) ∧ w2 = w)) args s 0 0 (hm_A w s.heap.size)) w 0 [(0, .ref (t)), (1, .int (iI (i)))] []
  refine hv_aload_n E dX4_bitAt_0 rfl 0 rfl rfl ?_
  refine hv_iload_n E dX4_bitAt_1 rfl 1 rfl rfl ?_
  refine hv_callVI (na := 1) (As := [.int (iI (i))]) (st := []) E (c4_reaches l D K i hi ht hL0 hL1) dX4_bitAt_2 ht.1 (show vwCl[3]? = some (RX4, TX4, 3) from rfl) gL_X4_22 gV_X4_reaches gI_X4_reaches gC_X4_reaches gZ_X4 (by decide +kernel) rfl ⟨Nat.le_of_ble_eq_true rfl, Nat.le_of_ble_eq_true rfl⟩ (Nat.le_of_ble_eq_true rfl) ⟨Nat.zero_le _, Nat.zero_le _⟩ rfl rfl (fun r w2 hp => ?_)
  rw [hp.1, hp.2]
  show hm_V p l e (hm_rm 1 0 0) s m args below meth c D (hm_A w s.heap.size) 2 0 0 (MQ below (hm_Qi D w s.heap.size (fun r w2 => r = bI (decide (0 ≤ i) && tb f L i.toNat) ∧ w2 = w)) args s 0 0 (hm_A w s.heap.size)) w 5 [(0, .ref (t)), (1, .int (iI (i)))] [.int (bI (decide (0 ≤ i ∧ i < L)))]
  refine hv_if_eqB E 26 dX4_bitAt_5 (by decide) rfl (fun h1 => ?_) (fun h1 => ?_)
  · have h2 := of_decide_eq_false h1
    refine hv_iconst E dX4_bitAt_26 rfl ?_
    exact hv_iret E dX4_bitAt_27 hr ⟨by
          show bI false = _
          congr 1; unfold tb
          by_cases h3 : 0 ≤ i
          · rw [decide_eq_false (show ¬ (i.toNat : Int) < L by omega)]; simp
          · rw [decide_eq_false h3]; rfl, rfl⟩
  · have h2 := of_decide_eq_true h1
    refine hv_aload_n E dX4_bitAt_8 rfl 0 rfl rfl ?_
    refine hv_get (kf := 0) E dX4_bitAt_9 (show vwCl[3]? = some (RX4, TX4, 3) from rfl) (by decide) gW_X4 gF_X4_9 rfl ht.1 rfl rfl ?_
    refine hv_iload_n E dX4_bitAt_12 rfl 1 rfl rfl ?_
    refine hv_iconst E dX4_bitAt_13 rfl ?_
    refine hv_ishrR E dX4_bitAt_14 rfl rfl ?_
    refine hv_topi (show (iI (i)) >>> ((iI (5)) &&& 31) = iI (i / 32) from iI_shr5 hi) ?_
    refine hv_iald E dX4_bitAt_15 ht.2 (by omega) (by omega) (by decide) rfl ?_
    refine hv_iload_n E dX4_bitAt_16 rfl 1 rfl rfl ?_
    refine hv_bipush E dX4_bitAt_17 (by decide +kernel) rfl ?_
    refine hv_iandR E dX4_bitAt_19 rfl ?_
    refine hv_topi (show (iI (i)) &&& (iI (31)) = iI (i % 32) from iI_and31 i) ?_
    refine hv_iushrR E dX4_bitAt_20 rfl rfl ?_
    refine hv_iconst E dX4_bitAt_21 rfl ?_
    refine hv_iandR E dX4_bitAt_22 rfl ?_
    refine hv_topi (show (((f (i / 32).toNat).toUInt32 >>> ((iI (i % 32)).toUInt32 &&& Int32.toUInt32 31)).toInt32) &&& (iI (1)) = bI (mem f i.toNat) from mem_bit f h2.1) ?_
    refine hv_goto E 27 dX4_bitAt_23 (by decide) ?_
    exact hv_iret E dX4_bitAt_27 hr ⟨by unfold tb; rw [decide_eq_true h2.1, decide_eq_true (show (i.toNat : Int) < L by omega)]; rfl, rfl⟩
set_option maxHeartbeats 4000000 in
set_option maxRecDepth 100000 in
theorem c4_turn (l : Launch) (D : va_G) (K : Nat → ClassId) {w : hm_M} {t tw : Nat} {f : Nat → Int32} {L P : Int} (i : Int) (hi : 0 ≤ i) (hi2 : i < L) (ht : tAt K w t tw f L P) (hL0 : 0 ≤ L) (hL1 : L ≤ 8210)  : hm_Cv l D K yX4_turn cX4_turn 2 1 [.ref (t), .int (iI (i))] w 0 0 (fun w2 => ∃ f2 : Nat → Int32, w2 = tM K w t tw f2 L P ∧ ∀ u, mem f2 u = (mem f u ^^ decide (u = i.toNat))) := by
  refine hm_enterV (by decide) (Nat.le_of_ble_eq_true rfl) ?_
  intro p e s m args below meth c E hr hnm
  show hm_V p l e (hm_rm 1 0 0) s m args below meth c D (hm_A w s.heap.size) 2 0 0 (MQ below (hm_Qv D w s.heap.size (fun w2 => ∃ f2 : Nat → Int32, w2 = tM K w t tw f2 L P ∧ ∀ u, mem f2 u = (mem f u ^^ decide (u = i.toNat)))) args s 0 0 (hm_A w s.heap.size)) w 0 [(0, .ref (t)), (1, .int (iI (i)))] []
  refine hv_aload_n E dX4_turn_0 rfl 0 rfl rfl ?_
  refine hv_iload_n E dX4_turn_1 rfl 1 rfl rfl ?_
  refine hv_callVI (na := 1) (As := [.int (iI (i))]) (st := []) E (c4_reaches l D K i ⟨by omega, by omega⟩ ht hL0 hL1) dX4_turn_2 ht.1 (show vwCl[3]? = some (RX4, TX4, 3) from rfl) gL_X4_22 gV_X4_reaches gI_X4_reaches gC_X4_reaches gZ_X4 (by decide +kernel) rfl ⟨Nat.le_of_ble_eq_true rfl, Nat.le_of_ble_eq_true rfl⟩ (Nat.le_of_ble_eq_true rfl) ⟨Nat.zero_le _, Nat.zero_le _⟩ rfl rfl (fun r w2 hp => ?_)
  rw [hp.1, hp.2]
  show hm_V p l e (hm_rm 1 0 0) s m args below meth c D (hm_A w s.heap.size) 2 0 0 (MQ below (hm_Qv D w s.heap.size (fun w2 => ∃ f2 : Nat → Int32, w2 = tM K w t tw f2 L P ∧ ∀ u, mem f2 u = (mem f u ^^ decide (u = i.toNat)))) args s 0 0 (hm_A w s.heap.size)) w 5 [(0, .ref (t)), (1, .int (iI (i)))] [.int (bI (decide (0 ≤ i ∧ i < L)))]
  refine hv_if_eqB E 25 dX4_turn_5 (by decide) rfl (fun h1 => ?_) (fun h1 => ?_)
  · exact absurd (of_decide_eq_false h1) (fun z => z ⟨hi, hi2⟩)
  · refine hv_aload_n E dX4_turn_8 rfl 0 rfl rfl ?_
    refine hv_get (kf := 0) E dX4_turn_9 (show vwCl[3]? = some (RX4, TX4, 3) from rfl) (by decide) gW_X4 gF_X4_9 rfl ht.1 rfl rfl ?_
    refine hv_iload_n E dX4_turn_12 rfl 1 rfl rfl ?_
    refine hv_iconst E dX4_turn_13 rfl ?_
    refine hv_ishrR E dX4_turn_14 rfl rfl ?_
    refine hv_topi (show (iI (i)) >>> ((iI (5)) &&& 31) = iI (i / 32) from iI_shr5 ⟨by omega, by omega⟩) ?_
    refine hv_dup2 E dX4_turn_15 rfl rfl rfl ?_
    refine hv_iald E dX4_turn_16 ht.2 (by omega) (by omega) (by decide) rfl ?_
    refine hv_iconst E dX4_turn_17 rfl ?_
    refine hv_iload_n E dX4_turn_18 rfl 1 rfl rfl ?_
    refine hv_bipush E dX4_turn_19 (by decide +kernel) rfl ?_
    refine hv_iandR E dX4_turn_21 rfl ?_
    refine hv_topi (show (iI (i)) &&& (iI (31)) = iI (i % 32) from iI_and31 i) ?_
    refine hv_ishlR E dX4_turn_22 rfl rfl ?_
    refine hv_ixorR E dX4_turn_23 rfl ?_
    refine hv_iast E dX4_turn_24 ht.2 (by omega) (by omega) (by decide) rfl ?_
    refine hv_mem (show hm_up w tw (.inl (K 0, 257, .inl (upd f (i / 32).toNat ((f (i / 32).toNat) ^^^ ((iI (1)) <<< ((iI (i % 32)) &&& 31)))))) = tM K w t tw (upd f (i / 32).toNat ((f (i / 32).toNat) ^^^ ((iI (1)) <<< ((iI (i % 32)) &&& 31)))) L P from (by
          have h9 := tM_words (K := K) (w := w) (f := f) (g := upd f (i / 32).toNat ((f (i / 32).toNat) ^^^ ((iI (1)) <<< ((iI (i % 32)) &&& 31)))) (L := L) (P := P) ht.ne
          rw [← tM_id ht] at h9; exact h9)) ?_
    exact hv_vret E dX4_turn_25 hr ⟨_, rfl, fun u => by
          rw [mem_upd]
          have hb := bt_one (r := (i % 32).toNat) (i := u % 32) (by omega) (by omega)
          rw [Int.toNat_of_nonneg (show 0 ≤ i % 32 by omega)] at hb
          split
          · rename_i h
            rw [b_xor, hb, show (f (i / 32).toNat) = f (u / 32) by rw [h]]
            show (mem f u ^^ _) = _
            congr 2; apply propext; omega
          · rw [decide_eq_false (by omega), Bool.xor_false]⟩
set_option maxHeartbeats 4000000 in
set_option maxRecDepth 100000 in
theorem c4_keepFirst (l : Launch) (D : va_G) (K : Nat → ClassId) {w : hm_M} {t tw : Nat} {f : Nat → Int32} {L P : Int} (n : Int) (hn0 : 0 ≤ n) (hn1 : n ≤ L) (ht : tAt K w t tw f L P) (hL0 : 0 ≤ L) (hL1 : L ≤ 8210)  : hm_Cv l D K yX4_keepFirst cX4_keepFirst 2 0 [.ref (t), .int (iI (n))] w 0 0 (fun w2 => w2 = tM K w t tw f n P) := by
  refine hm_enterV (by decide) (Nat.le_of_ble_eq_true rfl) ?_
  intro p e s m args below meth c E hr hnm
  show hm_V p l e (hm_rm 0 0 0) s m args below meth c D (hm_A w s.heap.size) 2 0 0 (MQ below (hm_Qv D w s.heap.size (fun w2 => w2 = tM K w t tw f n P)) args s 0 0 (hm_A w s.heap.size)) w 0 [(0, .ref (t)), (1, .int (iI (n)))] []
  refine hv_iload_n E dX4_keepFirst_0 rfl 1 rfl rfl ?_
  refine hv_if_lt E 17 dX4_keepFirst_1 (by decide) ⟨by omega, by omega⟩ rfl (fun h1 => ?_) (fun h1 => ?_)
  · exact absurd h1 (by omega)
  · refine hv_iload_n E dX4_keepFirst_4 rfl 1 rfl rfl ?_
    refine hv_aload_n E dX4_keepFirst_5 rfl 0 rfl rfl ?_
    refine hv_get (kf := 1) E dX4_keepFirst_6 (show vwCl[3]? = some (RX4, TX4, 3) from rfl) (by decide) gW_X4 gF_X4_15 rfl ht.1 rfl rfl ?_
    refine hv_icmp_gt E 17 dX4_keepFirst_9 (by decide) ⟨by omega, by omega⟩ ⟨by omega, by omega⟩ rfl (fun h2 => ?_) (fun h2 => ?_)
    · exact absurd h2 (by omega)
    · refine hv_aload_n E dX4_keepFirst_12 rfl 0 rfl rfl ?_
      refine hv_iload_n E dX4_keepFirst_13 rfl 1 rfl rfl ?_
      refine hv_put (kf := 1) (ty0 := tyX4) E dX4_keepFirst_14 (show vwCl[3]? = some (RX4, TX4, 3) from rfl) (by decide) gW_X4 tyX4_ok nmX4 gF_X4_15 rfl ht.1 rfl rfl rfl (Nat.le_of_ble_eq_true rfl) rfl ?_
      show hm_V p l e (hm_rm 0 0 0) s m args below meth c D (hm_A w s.heap.size) 2 0 0 (MQ below (hm_Qv D w s.heap.size (fun w2 => w2 = tM K w t tw f n P)) args s 0 0 (hm_A w s.heap.size)) (hm_up w t (.inr (3, [.ref tw, .int (iI (n)), .int (iI (P))]))) 17 [(0, .ref (t)), (1, .int (iI (n)))] []
      exact hv_vret E dX4_keepFirst_17 hr (by
            have h9 := tM_obj (K := K) (w := w) (t := t) (tw := tw) (f := f) (L := L) (P := P) (L2 := n) (P2 := P)
            rw [← tM_id ht] at h9; exact h9)
set_option maxHeartbeats 4000000 in
set_option maxRecDepth 100000 in
theorem c4_rewind (l : Launch) (D : va_G) (K : Nat → ClassId) {w : hm_M} {t tw : Nat} {f : Nat → Int32} {L P : Int} (ht : tAt K w t tw f L P)  : hm_Cv l D K yX4_rewind cX4_rewind 1 0 [.ref (t)] w 0 0 (fun w2 => w2 = tM K w t tw f L 0) := by
  refine hm_enterV (by decide) (Nat.le_of_ble_eq_true rfl) ?_
  intro p e s m args below meth c E hr hnm
  show hm_V p l e (hm_rm 0 0 0) s m args below meth c D (hm_A w s.heap.size) 1 0 0 (MQ below (hm_Qv D w s.heap.size (fun w2 => w2 = tM K w t tw f L 0)) args s 0 0 (hm_A w s.heap.size)) w 0 [(0, .ref (t))] []
  refine hv_aload_n E dX4_rewind_0 rfl 0 rfl rfl ?_
  refine hv_iconst E dX4_rewind_1 rfl ?_
  refine hv_put (kf := 2) (ty0 := tyX4) E dX4_rewind_2 (show vwCl[3]? = some (RX4, TX4, 3) from rfl) (by decide) gW_X4 tyX4_ok nmX4 gF_X4_19 rfl ht.1 rfl rfl rfl (Nat.le_of_ble_eq_true rfl) rfl ?_
  show hm_V p l e (hm_rm 0 0 0) s m args below meth c D (hm_A w s.heap.size) 1 0 0 (MQ below (hm_Qv D w s.heap.size (fun w2 => w2 = tM K w t tw f L 0)) args s 0 0 (hm_A w s.heap.size)) (hm_up w t (.inr (3, [.ref tw, .int (iI (L)), .int (iI (0))]))) 5 [(0, .ref (t))] []
  exact hv_vret E dX4_rewind_5 hr (by
        have h9 := tM_obj (K := K) (w := w) (t := t) (tw := tw) (f := f) (L := L) (P := P) (L2 := L) (P2 := 0)
        rw [← tM_id ht] at h9; exact h9)
set_option maxHeartbeats 4000000 in
set_option maxRecDepth 100000 in
theorem c4_isReadToItsEnd (l : Launch) (D : va_G) (K : Nat → ClassId) {w : hm_M} {t tw : Nat} {f : Nat → Int32} {L P : Int} (hP : iB P) (ht : tAt K w t tw f L P) (hL0 : 0 ≤ L) (hL1 : L ≤ 8210)  : hm_Ci l D K yX4_isReadToItsEnd cX4_isReadToItsEnd 1 .boolean 0 [.ref (t)] w 0 0 (fun r w2 => r = bI (decide (P = L)) ∧ w2 = w) := by
  refine hm_enterI (by decide) (Nat.le_of_ble_eq_true rfl) ?_
  intro p e s m args below meth c E hr hnm
  show hm_V p l e (hm_rm 0 0 0) s m args below meth c D (hm_A w s.heap.size) 1 0 0 (MQ below (hm_Qi D w s.heap.size (fun r w2 => r = bI (decide (P = L)) ∧ w2 = w)) args s 0 0 (hm_A w s.heap.size)) w 0 [(0, .ref (t))] []
  refine hv_aload_n E dX4_isReadToItsEnd_0 rfl 0 rfl rfl ?_
  refine hv_get (kf := 2) E dX4_isReadToItsEnd_1 (show vwCl[3]? = some (RX4, TX4, 3) from rfl) (by decide) gW_X4 gF_X4_19 rfl ht.1 rfl rfl ?_
  refine hv_aload_n E dX4_isReadToItsEnd_4 rfl 0 rfl rfl ?_
  refine hv_get (kf := 1) E dX4_isReadToItsEnd_5 (show vwCl[3]? = some (RX4, TX4, 3) from rfl) (by decide) gW_X4 gF_X4_15 rfl ht.1 rfl rfl ?_
  refine hv_icmp_ne E 15 dX4_isReadToItsEnd_8 (by decide) hP ⟨by omega, by omega⟩ rfl (fun h1 => ?_) (fun h1 => ?_)
  · refine hv_iconst E dX4_isReadToItsEnd_15 rfl ?_
    refine hv_topi (show iI (0) = bI (false) from rfl) ?_
    exact hv_zret E dX4_isReadToItsEnd_16 hr ⟨by rw [decide_eq_false h1], rfl⟩
  · refine hv_iconst E dX4_isReadToItsEnd_11 rfl ?_
    refine hv_goto E 16 dX4_isReadToItsEnd_12 (by decide) ?_
    refine hv_topi (show iI (1) = bI (true) from rfl) ?_
    exact hv_zret E dX4_isReadToItsEnd_16 hr ⟨by rw [decide_eq_true h1], rfl⟩
set_option maxHeartbeats 4000000 in
set_option maxRecDepth 100000 in
theorem c4_valueAt (l : Launch) (D : va_G) (K : Nat → ClassId) {w : hm_M} {t tw : Nat} {f : Nat → Int32} {L P : Int} (a n : Int) (ha0 : 0 ≤ a) (ha1 : a < 1000000) (hn0 : 0 ≤ n) (hn1 : n ≤ 29) (ht : tAt K w t tw f L P) (hL0 : 0 ≤ L) (hL1 : L ≤ 8210)  : hm_Ci l D K yX4_valueAt cX4_valueAt 5 .int 2 [.ref (t), .int (iI (a)), .int (iI (n))] w 0 0 (fun r w2 => r = iI (bv (tb f L) a.toNat n.toNat : Nat) ∧ w2 = w) := by
  refine hm_enterI (by decide) (Nat.le_of_ble_eq_true rfl) ?_
  intro p e s m args below meth c E hr hnm
  show hm_V p l e (hm_rm 2 0 0) s m args below meth c D (hm_A w s.heap.size) 5 0 0 (MQ below (hm_Qi D w s.heap.size (fun r w2 => r = iI (bv (tb f L) a.toNat n.toNat : Nat) ∧ w2 = w)) args s 0 0 (hm_A w s.heap.size)) w 0 [(0, .ref (t)), (1, .int (iI (a))), (2, .int (iI (n)))] []
  refine hv_iconst E dX4_valueAt_0 rfl ?_
  refine hv_istore_n (lv2 := [(3, .int (iI (0))), (0, .ref (t)), (1, .int (iI (a))), (2, .int (iI (n)))]) E dX4_valueAt_1 rfl (by decide) rfl rfl ?_
  refine hv_iconst E dX4_valueAt_2 rfl ?_
  refine hv_istore (lv2 := [(4, .int (iI (0))), (3, .int (iI (0))), (0, .ref (t)), (1, .int (iI (a))), (2, .int (iI (n)))]) E dX4_valueAt_3 (by decide) rfl rfl ?_
  have LP : ∀ (k : Nat) (j : Int) (vl : Int), (n - j < (k : Int)) → (0 ≤ j) → (j ≤ n) → (vl = (bv (tb f L) a.toNat j.toNat : Nat)) → hm_V p l e (hm_rm 2 0 0) s m args below meth c D (hm_A w s.heap.size) 5 0 0 (MQ below (hm_Qi D w s.heap.size (fun r w2 => r = iI (bv (tb f L) a.toNat n.toNat : Nat) ∧ w2 = w)) args s 0 0 (hm_A w s.heap.size)) w 5 [(4, .int (iI (j))), (3, .int (iI (vl))), (0, .ref (t)), (1, .int (iI (a))), (2, .int (iI (n)))] [] := by
    intro k
    induction k with
    | zero =>
      intro j vl hk g0 g1 hv
      exact absurd hk (by omega)
    | succ k ih =>
      intro j vl hk g0 g1 hv
      refine hv_iload E dX4_valueAt_5 0 rfl rfl ?_
      refine hv_iload_n E dX4_valueAt_7 rfl 4 rfl rfl ?_
      refine hv_icmp_ge E 30 dX4_valueAt_8 (by decide) ⟨by omega, by omega⟩ ⟨by omega, by omega⟩ rfl (fun h1 => ?_) (fun h1 => ?_)
      · refine hv_iload_n E dX4_valueAt_30 rfl 1 rfl rfl ?_
        exact hv_iret E dX4_valueAt_31 hr ⟨by rw [hv, show j.toNat = n.toNat by omega], rfl⟩
      · refine hv_iload_n E dX4_valueAt_11 rfl 1 rfl rfl ?_
        refine hv_iconst E dX4_valueAt_12 rfl ?_
        refine hv_ishlR E dX4_valueAt_13 rfl rfl ?_
        refine hv_aload_n E dX4_valueAt_14 rfl 2 rfl rfl ?_
        refine hv_iload_n E dX4_valueAt_15 rfl 3 rfl rfl ?_
        refine hv_iload E dX4_valueAt_16 0 rfl rfl ?_
        refine hv_iadd E dX4_valueAt_18 rfl ?_
        refine hv_callVI (na := 1) (As := [.int (iI (a + j))]) (st := [.int ((iI (vl)) <<< ((iI (1)) &&& 31))]) E (c4_bitAt l D K (a + j) ⟨by omega, by omega⟩ ht hL0 hL1) dX4_valueAt_19 ht.1 (show vwCl[3]? = some (RX4, TX4, 3) from rfl) gL_X4_26 gV_X4_bitAt gI_X4_bitAt gC_X4_bitAt gZ_X4 (by decide +kernel) rfl ⟨Nat.le_of_ble_eq_true rfl, Nat.le_of_ble_eq_true rfl⟩ (Nat.le_of_ble_eq_true rfl) ⟨Nat.zero_le _, Nat.zero_le _⟩ rfl rfl (fun r w2 hp => ?_)
        rw [hp.1, hp.2]
        show hm_V p l e (hm_rm 2 0 0) s m args below meth c D (hm_A w s.heap.size) 5 0 0 (MQ below (hm_Qi D w s.heap.size (fun r w2 => r = iI (bv (tb f L) a.toNat n.toNat : Nat) ∧ w2 = w)) args s 0 0 (hm_A w s.heap.size)) w 22 [(4, .int (iI (j))), (3, .int (iI (vl))), (0, .ref (t)), (1, .int (iI (a))), (2, .int (iI (n)))] [.int (bI (decide (0 ≤ a + j) && tb f L (a + j).toNat)), .int ((iI (vl)) <<< ((iI (1)) &&& 31))]
        refine hv_iorR E dX4_valueAt_22 rfl ?_
        have hb := bv_lt (tb f L) a.toNat j.toNat
        have hb2 : 2 ^ j.toNat ≤ 2 ^ 29 := Nat.pow_le_pow_right (by omega) (by omega)
        refine hv_topi (show ((iI (vl)) <<< ((iI (1)) &&& 31)) ||| (bI (decide (0 ≤ a + j) && tb f L (a + j).toNat)) = iI (2 * vl + (if (decide (0 ≤ a + j) && tb f L (a + j).toNat) then 1 else 0)) from or_bit vl (by omega) (by omega) _) ?_
        refine hv_istore_n (lv2 := [(3, .int (iI (2 * vl + (if (decide (0 ≤ a + j) && tb f L (a + j).toNat) then 1 else 0)))), (4, .int (iI (j))), (0, .ref (t)), (1, .int (iI (a))), (2, .int (iI (n)))]) E dX4_valueAt_23 rfl (by decide) rfl rfl ?_
        refine hv_iinc (lv2 := [(4, .int (iI (j + 1))), (3, .int (iI (2 * vl + (if (decide (0 ≤ a + j) && tb f L (a + j).toNat) then 1 else 0)))), (0, .ref (t)), (1, .int (iI (a))), (2, .int (iI (n)))]) E dX4_valueAt_24 1 rfl rfl (by decide) rfl rfl ?_
        refine hv_goto E 5 dX4_valueAt_27 (by decide) ?_
        refine hv_sub (lv2 := [(4, .int (iI (j + 1))), (3, .int (iI (2 * vl + (if (decide (0 ≤ a + j) && tb f L (a + j).toNat) then 1 else 0)))), (0, .ref (t)), (1, .int (iI (a))), (2, .int (iI (n)))]) [0, 1, 2, 3, 4] rfl ?_
        exact ih (j + 1) _ (by omega) (by omega) (by omega) (by
              rw [show (j + 1).toNat = j.toNat + 1 by omega]
              simp only [bv]
              rw [decide_eq_true (show 0 ≤ a + j by omega), Bool.true_and, show (a + j).toNat = a.toNat + j.toNat by omega, hv]
              split <;> omega)
  refine hv_sub (lv2 := [(4, .int (iI (0))), (3, .int (iI (0))), (0, .ref (t)), (1, .int (iI (a))), (2, .int (iI (n)))]) [0, 1, 2, 3, 4] rfl ?_
  exact LP (n + 1).toNat 0 0 (by omega) (by omega) (by omega) rfl
set_option maxHeartbeats 4000000 in
set_option maxRecDepth 100000 in
theorem c4_take (l : Launch) (D : va_G) (K : Nat → ClassId) {w : hm_M} {t tw : Nat} {f : Nat → Int32} {L P : Int} (n : Int) (hn0 : 0 ≤ n) (hn1 : n ≤ 29) (hP0 : 0 ≤ P) (hP1 : P < 1000000) (ht : tAt K w t tw f L P) (hL0 : 0 ≤ L) (hL1 : L ≤ 8210)  : hm_Ci l D K yX4_take cX4_take 3 .int 3 [.ref (t), .int (iI (n))] w 0 0 (fun r w2 => r = iI (bv (tb f L) P.toNat n.toNat : Nat) ∧ w2 = tM K w t tw f L (P + n)) := by
  refine hm_enterI (by decide) (Nat.le_of_ble_eq_true rfl) ?_
  intro p e s m args below meth c E hr hnm
  show hm_V p l e (hm_rm 3 0 0) s m args below meth c D (hm_A w s.heap.size) 3 0 0 (MQ below (hm_Qi D w s.heap.size (fun r w2 => r = iI (bv (tb f L) P.toNat n.toNat : Nat) ∧ w2 = tM K w t tw f L (P + n))) args s 0 0 (hm_A w s.heap.size)) w 0 [(0, .ref (t)), (1, .int (iI (n)))] []
  refine hv_aload_n E dX4_take_0 rfl 0 rfl rfl ?_
  refine hv_aload_n E dX4_take_1 rfl 0 rfl rfl ?_
  refine hv_get (kf := 2) E dX4_take_2 (show vwCl[3]? = some (RX4, TX4, 3) from rfl) (by decide) gW_X4 gF_X4_19 rfl ht.1 rfl rfl ?_
  refine hv_iload_n E dX4_take_5 rfl 1 rfl rfl ?_
  refine hv_callVI (na := 2) (As := [.int (iI (P)), .int (iI (n))]) (st := []) E (c4_valueAt l D K P n hP0 hP1 hn0 hn1 ht hL0 hL1) dX4_take_6 ht.1 (show vwCl[3]? = some (RX4, TX4, 3) from rfl) gL_X4_30 gV_X4_valueAt gI_X4_valueAt gC_X4_valueAt gZ_X4 (by decide +kernel) rfl ⟨Nat.le_of_ble_eq_true rfl, Nat.le_of_ble_eq_true rfl⟩ (Nat.le_of_ble_eq_true rfl) ⟨Nat.zero_le _, Nat.zero_le _⟩ rfl rfl (fun r w2 hp => ?_)
  rw [hp.1, hp.2]
  show hm_V p l e (hm_rm 3 0 0) s m args below meth c D (hm_A w s.heap.size) 3 0 0 (MQ below (hm_Qi D w s.heap.size (fun r w2 => r = iI (bv (tb f L) P.toNat n.toNat : Nat) ∧ w2 = tM K w t tw f L (P + n))) args s 0 0 (hm_A w s.heap.size)) w 9 [(0, .ref (t)), (1, .int (iI (n)))] [.int (iI ((bv (tb f L) P.toNat n.toNat : Nat)))]
  refine hv_istore_n (lv2 := [(2, .int (iI ((bv (tb f L) P.toNat n.toNat : Nat)))), (0, .ref (t)), (1, .int (iI (n)))]) E dX4_take_9 rfl (by decide) rfl rfl ?_
  refine hv_aload_n E dX4_take_10 rfl 1 rfl rfl ?_
  refine hv_dup E dX4_take_11 rfl rfl ?_
  refine hv_get (kf := 2) E dX4_take_12 (show vwCl[3]? = some (RX4, TX4, 3) from rfl) (by decide) gW_X4 gF_X4_19 rfl ht.1 rfl rfl ?_
  refine hv_iload_n E dX4_take_15 rfl 2 rfl rfl ?_
  refine hv_iadd E dX4_take_16 rfl ?_
  refine hv_put (kf := 2) (ty0 := tyX4) E dX4_take_17 (show vwCl[3]? = some (RX4, TX4, 3) from rfl) (by decide) gW_X4 tyX4_ok nmX4 gF_X4_19 rfl ht.1 rfl rfl rfl (Nat.le_of_ble_eq_true rfl) rfl ?_
  show hm_V p l e (hm_rm 3 0 0) s m args below meth c D (hm_A w s.heap.size) 3 0 0 (MQ below (hm_Qi D w s.heap.size (fun r w2 => r = iI (bv (tb f L) P.toNat n.toNat : Nat) ∧ w2 = tM K w t tw f L (P + n))) args s 0 0 (hm_A w s.heap.size)) (hm_up w t (.inr (3, [.ref tw, .int (iI (L)), .int (iI (P + n))]))) 20 [(2, .int (iI ((bv (tb f L) P.toNat n.toNat : Nat)))), (0, .ref (t)), (1, .int (iI (n)))] []
  refine hv_iload_n E dX4_take_20 rfl 0 rfl rfl ?_
  exact hv_iret E dX4_take_21 hr ⟨rfl, by
        have h9 := tM_obj (K := K) (w := w) (t := t) (tw := tw) (f := f) (L := L) (P := P) (L2 := L) (P2 := P + n)
        rw [← tM_id ht] at h9; exact h9⟩
set_option maxHeartbeats 4000000 in
set_option maxRecDepth 100000 in
theorem c4_append (l : Launch) (D : va_G) (K : Nat → ClassId) {w : hm_M} {t tw : Nat} {f : Nat → Int32} {L P : Int} (x : Int32) (n : Int) (hn0 : 0 ≤ n) (hn1 : n ≤ 32) (hn2 : L + n ≤ 8210) (ht : tAt K w t tw f L P) (hL0 : 0 ≤ L) (hL1 : L ≤ 8210)  : hm_Cv l D K yX4_append cX4_append 5 0 [.ref (t), .int (x), .int (iI (n))] w 0 0 (fun w2 => ∃ f2 : Nat → Int32, w2 = tM K w t tw f2 (L + n) P ∧ (∀ u : Nat, (u : Int) < L → mem f2 u = mem f u) ∧ ∀ i : Nat, (i : Int) < n → mem f2 (L.toNat + i) = bt x (n.toNat - 1 - i)) := by
  refine hm_enterV (by decide) (Nat.le_of_ble_eq_true rfl) ?_
  intro p e s m args below meth c E hr hnm
  show hm_V p l e (hm_rm 0 0 0) s m args below meth c D (hm_A w s.heap.size) 5 0 0 (MQ below (hm_Qv D w s.heap.size (fun w2 => ∃ f2 : Nat → Int32, w2 = tM K w t tw f2 (L + n) P ∧ (∀ u : Nat, (u : Int) < L → mem f2 u = mem f u) ∧ ∀ i : Nat, (i : Int) < n → mem f2 (L.toNat + i) = bt x (n.toNat - 1 - i))) args s 0 0 (hm_A w s.heap.size)) w 0 [(0, .ref (t)), (1, .int (x)), (2, .int (iI (n)))] []
  refine hv_iload_n E dX4_append_0 rfl 2 rfl rfl ?_
  refine hv_iconst E dX4_append_1 rfl ?_
  refine hv_isub E dX4_append_2 rfl ?_
  refine hv_istore_n (lv2 := [(3, .int (iI (n - 1))), (0, .ref (t)), (1, .int (x)), (2, .int (iI (n)))]) E dX4_append_3 rfl (by decide) rfl rfl ?_
  refine hv_mem (show w = tM K w t tw f (L + 0) P from (by rw [Int.add_zero]; exact tM_id ht)) ?_
  have LP : ∀ (k : Nat) (j : Int) (g : Nat → Int32), (n - j < (k : Int)) → (0 ≤ j) → (j ≤ n) → (∀ u : Nat, (u : Int) < L → mem g u = mem f u) → (∀ i : Nat, (i : Int) < j → mem g (L.toNat + i) = bt x (n.toNat - 1 - i)) → hm_V p l e (hm_rm 0 0 0) s m args below meth c D (hm_A w s.heap.size) 5 0 0 (MQ below (hm_Qv D w s.heap.size (fun w2 => ∃ f2 : Nat → Int32, w2 = tM K w t tw f2 (L + n) P ∧ (∀ u : Nat, (u : Int) < L → mem f2 u = mem f u) ∧ ∀ i : Nat, (i : Int) < n → mem f2 (L.toNat + i) = bt x (n.toNat - 1 - i))) args s 0 0 (hm_A w s.heap.size)) (tM K w t tw g (L + j) P) 4 [(3, .int (iI (n - 1 - j))), (0, .ref (t)), (1, .int (x)), (2, .int (iI (n)))] [] := by
    intro k
    induction k with
    | zero =>
      intro j g hk g0 g1 hg hg2
      exact absurd hk (by omega)
    | succ k ih =>
      intro j g hk g0 g1 hg hg2
      have hg0 := tAt_tM (K := K) (w := w) (f := g) (L := L + j) (P := P) ht.ne
      refine hv_iload_n E dX4_append_4 rfl 0 rfl rfl ?_
      refine hv_if_lt E 91 dX4_append_5 (by decide) ⟨by omega, by omega⟩ rfl (fun h1 => ?_) (fun h1 => ?_)
      · exact hv_vret E dX4_append_91 hr ⟨g, by rw [show j = n by omega], hg, fun i hi => hg2 i (by omega)⟩
      · refine hv_aload_n E dX4_append_8 rfl 1 rfl rfl ?_
        refine hv_get (kf := 1) E dX4_append_9 (show vwCl[3]? = some (RX4, TX4, 3) from rfl) (by decide) gW_X4 gF_X4_15 rfl hg0.1 rfl rfl ?_
        refine hv_sipush E dX4_append_12 (by decide +kernel) rfl ?_
        refine hv_icmp_ge E 91 dX4_append_15 (by decide) ⟨by omega, by omega⟩ ⟨by omega, by omega⟩ rfl (fun h2 => ?_) (fun h2 => ?_)
        · exact absurd h2 (by omega)
        · refine hv_iconst E dX4_append_18 rfl ?_
          refine hv_aload_n E dX4_append_19 rfl 1 rfl rfl ?_
          refine hv_get (kf := 1) E dX4_append_20 (show vwCl[3]? = some (RX4, TX4, 3) from rfl) (by decide) gW_X4 gF_X4_15 rfl hg0.1 rfl rfl ?_
          refine hv_bipush E dX4_append_23 (by decide +kernel) rfl ?_
          refine hv_iandR E dX4_append_25 rfl ?_
          refine hv_topi (show (iI (L + j)) &&& (iI (31)) = iI ((L + j) % 32) from iI_and31 _) ?_
          refine hv_ishlR E dX4_append_26 rfl rfl ?_
          refine hv_istore (lv2 := [(4, .int ((iI (1)) <<< ((iI ((L + j) % 32)) &&& 31))), (3, .int (iI (n - 1 - j))), (0, .ref (t)), (1, .int (x)), (2, .int (iI (n)))]) E dX4_append_27 (by decide) rfl rfl ?_
          refine hv_iload_n E dX4_append_29 rfl 3 rfl rfl ?_
          refine hv_iload_n E dX4_append_30 rfl 1 rfl rfl ?_
          refine hv_iushrR E dX4_append_31 rfl rfl ?_
          refine hv_iconst E dX4_append_32 rfl ?_
          refine hv_iandR E dX4_append_33 rfl ?_
          refine hv_topi (show ((x.toUInt32 >>> ((iI (n - 1 - j)).toUInt32 &&& Int32.toUInt32 31)).toInt32) &&& (iI (1)) = bI (bt x (n - 1 - j).toNat) from (by
                have h8 := bt_bit x (n - 1 - j).toNat (by omega)
                rw [Int.toNat_of_nonneg (show 0 ≤ n - 1 - j by omega)] at h8; exact h8)) ?_
          refine hv_iconst E dX4_append_34 rfl ?_
          refine hv_topi (show iI (1) = bI (true) from rfl) ?_
          refine hv_icmp_neB E 57 dX4_append_35 (by decide) rfl (fun h3 => ?_) (fun h3 => ?_)
          · refine hv_aload_n E dX4_append_57 rfl 2 rfl rfl ?_
            refine hv_get (kf := 0) E dX4_append_58 (show vwCl[3]? = some (RX4, TX4, 3) from rfl) (by decide) gW_X4 gF_X4_9 rfl hg0.1 rfl rfl ?_
            refine hv_aload_n E dX4_append_61 rfl 2 rfl rfl ?_
            refine hv_get (kf := 1) E dX4_append_62 (show vwCl[3]? = some (RX4, TX4, 3) from rfl) (by decide) gW_X4 gF_X4_15 rfl hg0.1 rfl rfl ?_
            refine hv_iconst E dX4_append_65 rfl ?_
            refine hv_ishrR E dX4_append_66 rfl rfl ?_
            refine hv_topi (show (iI (L + j)) >>> ((iI (5)) &&& 31) = iI ((L + j) / 32) from iI_shr5 ⟨by omega, by omega⟩) ?_
            refine hv_dup2 E dX4_append_67 rfl rfl rfl ?_
            refine hv_iald E dX4_append_68 hg0.2 (by omega) (by omega) (by decide) rfl ?_
            refine hv_iload E dX4_append_69 0 rfl rfl ?_
            refine hv_iconst E dX4_append_71 rfl ?_
            refine hv_ixorR E dX4_append_72 rfl ?_
            refine hv_iandR E dX4_append_73 rfl ?_
            have h3 := eq_false_of_ne_true h3
            refine hv_iast E dX4_append_74 hg0.2 (by omega) (by omega) (by decide) rfl ?_
            refine hv_mem (show hm_up (tM K w t tw g (L + j) P) tw (.inl (K 0, 257, .inl (upd g ((L + j) / 32).toNat ((g ((L + j) / 32).toNat) &&& (((iI (1)) <<< ((iI ((L + j) % 32)) &&& 31)) ^^^ (iI ((-1)))))))) = tM K w t tw (upd g ((L + j) / 32).toNat ((g ((L + j) / 32).toNat) &&& (((iI (1)) <<< ((iI ((L + j) % 32)) &&& 31)) ^^^ (iI ((-1)))))) (L + j) P from tM_words ht.ne) ?_
            have hg3 := tAt_tM (K := K) (w := w) (f := upd g ((L + j) / 32).toNat ((g ((L + j) / 32).toNat) &&& (((iI (1)) <<< ((iI ((L + j) % 32)) &&& 31)) ^^^ (iI ((-1)))))) (L := L + j) (P := P) ht.ne
            refine hv_aload_n E dX4_append_75 rfl 2 rfl rfl ?_
            refine hv_dup E dX4_append_76 rfl rfl ?_
            refine hv_get (kf := 1) E dX4_append_77 (show vwCl[3]? = some (RX4, TX4, 3) from rfl) (by decide) gW_X4 gF_X4_15 rfl hg3.1 rfl rfl ?_
            refine hv_iconst E dX4_append_80 rfl ?_
            refine hv_iadd E dX4_append_81 rfl ?_
            refine hv_put (kf := 1) (ty0 := tyX4) E dX4_append_82 (show vwCl[3]? = some (RX4, TX4, 3) from rfl) (by decide) gW_X4 tyX4_ok nmX4 gF_X4_15 rfl hg3.1 rfl rfl rfl (Nat.le_of_ble_eq_true rfl) rfl ?_
            show hm_V p l e (hm_rm 0 0 0) s m args below meth c D (hm_A w s.heap.size) 5 0 0 (MQ below (hm_Qv D w s.heap.size (fun w2 => ∃ f2 : Nat → Int32, w2 = tM K w t tw f2 (L + n) P ∧ (∀ u : Nat, (u : Int) < L → mem f2 u = mem f u) ∧ ∀ i : Nat, (i : Int) < n → mem f2 (L.toNat + i) = bt x (n.toNat - 1 - i))) args s 0 0 (hm_A w s.heap.size)) (hm_up (tM K w t tw (upd g ((L + j) / 32).toNat ((g ((L + j) / 32).toNat) &&& (((iI (1)) <<< ((iI ((L + j) % 32)) &&& 31)) ^^^ (iI ((-1)))))) (L + j) P) t (.inr (3, [.ref tw, .int (iI (L + j + 1)), .int (iI (P))]))) 85 [(4, .int ((iI (1)) <<< ((iI ((L + j) % 32)) &&& 31))), (3, .int (iI (n - 1 - j))), (0, .ref (t)), (1, .int (x)), (2, .int (iI (n)))] []
            refine hv_mem (show hm_up (tM K w t tw (upd g ((L + j) / 32).toNat ((g ((L + j) / 32).toNat) &&& (((iI (1)) <<< ((iI ((L + j) % 32)) &&& 31)) ^^^ (iI ((-1)))))) (L + j) P) t (.inr (3, [.ref tw, .int (iI (L + j + 1)), .int (iI (P))])) = tM K w t tw (upd g ((L + j) / 32).toNat ((g ((L + j) / 32).toNat) &&& (((iI (1)) <<< ((iI ((L + j) % 32)) &&& 31)) ^^^ (iI ((-1)))))) (L + (j + 1)) P from (by rw [tM_obj, show L + j + 1 = L + (j + 1) by omega])) ?_
            refine hv_iinc (lv2 := [(3, .int (iI ((n - 1 - j) + (-1)))), (4, .int ((iI (1)) <<< ((iI ((L + j) % 32)) &&& 31))), (0, .ref (t)), (1, .int (x)), (2, .int (iI (n)))]) E dX4_append_85 1 rfl rfl (by decide) rfl rfl ?_
            refine hv_goto E 4 dX4_append_88 (by decide) ?_
            have hm : ∀ u : Nat, mem (upd g ((L + j) / 32).toNat ((g ((L + j) / 32).toNat) &&& (((iI (1)) <<< ((iI ((L + j) % 32)) &&& 31)) ^^^ (iI ((-1)))))) u = if u = (L + j).toNat then bt x (n - 1 - j).toNat else mem g u := fun u => by
              rw [mem_upd]
              have hb := bt_one (r := ((L + j) % 32).toNat) (i := u % 32) (by omega) (by omega)
              rw [Int.toNat_of_nonneg (show 0 ≤ (L + j) % 32 by omega)] at hb
              split
              · rename_i h
                rw [b_and, b_xor, bt_m1 (by omega), hb, show (g ((L + j) / 32).toNat) = g (u / 32) by rw [h]]
                split
                · rename_i hu
                  rw [decide_eq_true (by omega), h3]; simp
                · rw [decide_eq_false (by omega)]; simp; rfl
              · rw [if_neg (by omega)]
            refine hv_sub (lv2 := [(3, .int (iI ((n - 1 - j) + (-1)))), (0, .ref (t)), (1, .int (x)), (2, .int (iI (n)))]) [0, 2, 3, 4] rfl ?_
            have h9 := ih (j + 1) (upd g ((L + j) / 32).toNat ((g ((L + j) / 32).toNat) &&& (((iI (1)) <<< ((iI ((L + j) % 32)) &&& 31)) ^^^ (iI ((-1)))))) (by omega) (by omega) (by omega) (fun u hu => by rw [hm, if_neg (by omega)]; exact hg u hu) (fun i hi => by
              rw [hm]
              split
              · congr 1; omega
              · exact hg2 i (by omega))
            rw [show n - 1 - (j + 1) = n - 1 - j + -1 by omega] at h9
            exact h9
          · refine hv_aload_n E dX4_append_38 rfl 2 rfl rfl ?_
            refine hv_get (kf := 0) E dX4_append_39 (show vwCl[3]? = some (RX4, TX4, 3) from rfl) (by decide) gW_X4 gF_X4_9 rfl hg0.1 rfl rfl ?_
            refine hv_aload_n E dX4_append_42 rfl 2 rfl rfl ?_
            refine hv_get (kf := 1) E dX4_append_43 (show vwCl[3]? = some (RX4, TX4, 3) from rfl) (by decide) gW_X4 gF_X4_15 rfl hg0.1 rfl rfl ?_
            refine hv_iconst E dX4_append_46 rfl ?_
            refine hv_ishrR E dX4_append_47 rfl rfl ?_
            refine hv_topi (show (iI (L + j)) >>> ((iI (5)) &&& 31) = iI ((L + j) / 32) from iI_shr5 ⟨by omega, by omega⟩) ?_
            refine hv_dup2 E dX4_append_48 rfl rfl rfl ?_
            refine hv_iald E dX4_append_49 hg0.2 (by omega) (by omega) (by decide) rfl ?_
            refine hv_iload E dX4_append_50 0 rfl rfl ?_
            refine hv_iorR E dX4_append_52 rfl ?_
            refine hv_iast E dX4_append_53 hg0.2 (by omega) (by omega) (by decide) rfl ?_
            refine hv_mem (show hm_up (tM K w t tw g (L + j) P) tw (.inl (K 0, 257, .inl (upd g ((L + j) / 32).toNat ((g ((L + j) / 32).toNat) ||| ((iI (1)) <<< ((iI ((L + j) % 32)) &&& 31)))))) = tM K w t tw (upd g ((L + j) / 32).toNat ((g ((L + j) / 32).toNat) ||| ((iI (1)) <<< ((iI ((L + j) % 32)) &&& 31)))) (L + j) P from tM_words ht.ne) ?_
            have hg3 := tAt_tM (K := K) (w := w) (f := upd g ((L + j) / 32).toNat ((g ((L + j) / 32).toNat) ||| ((iI (1)) <<< ((iI ((L + j) % 32)) &&& 31)))) (L := L + j) (P := P) ht.ne
            refine hv_goto E 75 dX4_append_54 (by decide) ?_
            refine hv_aload_n E dX4_append_75 rfl 2 rfl rfl ?_
            refine hv_dup E dX4_append_76 rfl rfl ?_
            refine hv_get (kf := 1) E dX4_append_77 (show vwCl[3]? = some (RX4, TX4, 3) from rfl) (by decide) gW_X4 gF_X4_15 rfl hg3.1 rfl rfl ?_
            refine hv_iconst E dX4_append_80 rfl ?_
            refine hv_iadd E dX4_append_81 rfl ?_
            refine hv_put (kf := 1) (ty0 := tyX4) E dX4_append_82 (show vwCl[3]? = some (RX4, TX4, 3) from rfl) (by decide) gW_X4 tyX4_ok nmX4 gF_X4_15 rfl hg3.1 rfl rfl rfl (Nat.le_of_ble_eq_true rfl) rfl ?_
            show hm_V p l e (hm_rm 0 0 0) s m args below meth c D (hm_A w s.heap.size) 5 0 0 (MQ below (hm_Qv D w s.heap.size (fun w2 => ∃ f2 : Nat → Int32, w2 = tM K w t tw f2 (L + n) P ∧ (∀ u : Nat, (u : Int) < L → mem f2 u = mem f u) ∧ ∀ i : Nat, (i : Int) < n → mem f2 (L.toNat + i) = bt x (n.toNat - 1 - i))) args s 0 0 (hm_A w s.heap.size)) (hm_up (tM K w t tw (upd g ((L + j) / 32).toNat ((g ((L + j) / 32).toNat) ||| ((iI (1)) <<< ((iI ((L + j) % 32)) &&& 31)))) (L + j) P) t (.inr (3, [.ref tw, .int (iI (L + j + 1)), .int (iI (P))]))) 85 [(4, .int ((iI (1)) <<< ((iI ((L + j) % 32)) &&& 31))), (3, .int (iI (n - 1 - j))), (0, .ref (t)), (1, .int (x)), (2, .int (iI (n)))] []
            refine hv_mem (show hm_up (tM K w t tw (upd g ((L + j) / 32).toNat ((g ((L + j) / 32).toNat) ||| ((iI (1)) <<< ((iI ((L + j) % 32)) &&& 31)))) (L + j) P) t (.inr (3, [.ref tw, .int (iI (L + j + 1)), .int (iI (P))])) = tM K w t tw (upd g ((L + j) / 32).toNat ((g ((L + j) / 32).toNat) ||| ((iI (1)) <<< ((iI ((L + j) % 32)) &&& 31)))) (L + (j + 1)) P from (by rw [tM_obj, show L + j + 1 = L + (j + 1) by omega])) ?_
            refine hv_iinc (lv2 := [(3, .int (iI ((n - 1 - j) + (-1)))), (4, .int ((iI (1)) <<< ((iI ((L + j) % 32)) &&& 31))), (0, .ref (t)), (1, .int (x)), (2, .int (iI (n)))]) E dX4_append_85 1 rfl rfl (by decide) rfl rfl ?_
            refine hv_goto E 4 dX4_append_88 (by decide) ?_
            have hm : ∀ u : Nat, mem (upd g ((L + j) / 32).toNat ((g ((L + j) / 32).toNat) ||| ((iI (1)) <<< ((iI ((L + j) % 32)) &&& 31)))) u = if u = (L + j).toNat then bt x (n - 1 - j).toNat else mem g u := fun u => by
              rw [mem_upd]
              have hb := bt_one (r := ((L + j) % 32).toNat) (i := u % 32) (by omega) (by omega)
              rw [Int.toNat_of_nonneg (show 0 ≤ (L + j) % 32 by omega)] at hb
              split
              · rename_i h
                rw [b_or, hb, show (g ((L + j) / 32).toNat) = g (u / 32) by rw [h]]
                split
                · rename_i hu
                  rw [decide_eq_true (by omega), h3]; simp
                · rw [decide_eq_false (by omega)]; simp; rfl
              · rw [if_neg (by omega)]
            refine hv_sub (lv2 := [(3, .int (iI ((n - 1 - j) + (-1)))), (0, .ref (t)), (1, .int (x)), (2, .int (iI (n)))]) [0, 2, 3, 4] rfl ?_
            have h9 := ih (j + 1) (upd g ((L + j) / 32).toNat ((g ((L + j) / 32).toNat) ||| ((iI (1)) <<< ((iI ((L + j) % 32)) &&& 31)))) (by omega) (by omega) (by omega) (fun u hu => by rw [hm, if_neg (by omega)]; exact hg u hu) (fun i hi => by
              rw [hm]
              split
              · congr 1; omega
              · exact hg2 i (by omega))
            rw [show n - 1 - (j + 1) = n - 1 - j + -1 by omega] at h9
            exact h9
  refine hv_sub (lv2 := [(3, .int (iI (n - 1))), (0, .ref (t)), (1, .int (x)), (2, .int (iI (n)))]) [0, 1, 2, 3] rfl ?_
  have h9 := LP (n + 1).toNat 0 f (by omega) (by omega) (by omega) (fun u _ => rfl) (fun i hi => by omega)
  rw [show n - 1 - 0 = n - 1 by omega] at h9
  exact h9
