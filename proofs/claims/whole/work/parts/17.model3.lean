def jI (I : Nat → Bool) (n x y z : Int) (i : Nat) : Bool := if 4096 * x ≤ (i : Int) ∧ (i : Int) < 4096 * x + 4096 then jb n (mS I y (i - 4096 * x.toNat)) (mS I z (i - 4096 * x.toNat)) else I i
theorem jI_at {I : Nat → Bool} {n x y z : Int} (hx : 0 ≤ x) {v : Nat} (hv : v < 4096) : mS (jI I n x y z) x v = jb n (mS I y v) (mS I z v) := by
  show jI I n x y z (4096 * x.toNat + v) = _
  unfold jI
  rw [if_pos (by omega), show 4096 * x.toNat + v - 4096 * x.toNat = v by omega]
theorem iI_rem256 {v : Int} (h0 : 0 ≤ v) (h1 : v < 2147483648) : iI v - iI v / iI 256 * iI 256 = iI (v % 256) := by
  have h := pk_rem (a := v.toNat) (d := 256) (by omega) (by omega) (by omega)
  rw [← iI_nI, ← iI_nI, ← iI_nI, Int.toNat_of_nonneg h0] at h
  rw [show ((256 : Nat) : Int) = 256 from rfl] at h
  rw [h]
  congr 1
  omega
theorem pR_pos {S : Nat → Bool} {h : Int} (hn : 0 < pN S h) : 0 < pR S h := by
  unfold pN at hn
  obtain ⟨i, hi, hS⟩ := ct_pos_of (S := S) (a := 256 * h.toNat) (n := 256) (by omega)
  obtain ⟨k, hk, hl⟩ := pk_least (fun k => S (256 * h.toNat + k) = true) ⟨i, hS⟩
  have hki : k ≤ i := by
    rcases Nat.lt_or_ge i k with z | z
    · exact absurd hS (hl i z)
    · exact z
  have hb : bg S (256 * h.toNat) k = true := by
    unfold bg
    rw [hk, Bool.true_and]
    by_cases h0 : k = 0
    · subst h0; rfl
    · rw [show 256 * h.toNat + k - 1 = 256 * h.toNat + (k - 1) by omega, eq_false_of_ne_true (hl (k - 1) (by omega))]; simp
  have := ct_step (S := bg S (256 * h.toNat)) (a := 0) (n := k) (k := 256) (by omega) (by rw [Nat.zero_add]; exact hb)
  unfold pR
  omega
theorem pB_min (S : Nat → Bool) (h : Int) : pB S h = if 16 * pR S h < (if 8 * pN S h < 256 then 8 * pN S h else 256) then 16 * pR S h else (if 8 * pN S h < 256 then 8 * pN S h else 256) := by
  have h1 := pN_b S h
  have h2 := pR_b S h
  unfold pB pF pfm
  generalize pN S h = a at *
  generalize pR S h = b at *
  (repeat' split) <;> omega
theorem pF_mod (S : Nat → Bool) (h : Int) : (if pB S h = 0 then 3 else if pB S h = 8 * pN S h then 0 else if pB S h = 256 then 1 else 2) = if pF S h = -1 then 3 else pF S h := by
  have h1 := pN_b S h
  have h2 := pR_b S h
  have h3 := pR_pos (S := S) (h := h)
  unfold pB pF pfm
  generalize pN S h = a at *
  generalize pR S h = b at *
  (repeat' split) <;> omega
def cs (S : Nat → Bool) : Nat → Int
  | 0 => 0
  | k + 1 => cs S k + (if 0 < pN S (k : Int) then 16 + pB S (k : Int) else 0)
theorem pB_b (S : Nat → Bool) (h : Int) : 0 ≤ pB S h ∧ pB S h ≤ 256 := by
  have h1 := pN_b S h
  have h2 := pR_b S h
  rw [pB_min]
  (repeat' split) <;> omega
theorem cs_b (S : Nat → Bool) (k : Nat) : 0 ≤ cs S k ∧ cs S k ≤ 272 * k := by
  induction k with
  | zero => simp [cs]
  | succ k ih =>
    have := pB_b S (k : Int)
    simp only [cs]
    split <;> omega
set_option maxHeartbeats 4000000 in
set_option maxRecDepth 100000 in
theorem c7_numbersOf (l : Launch) (D : va_G) (K : Nat → ClassId) {w : hm_M} {q ia : Nat} {fs : List Value} {I : Nat → Bool} (x h : Int) (h0 : 0 ≤ x) (h1 : x ≤ 8) (h2 : 0 ≤ h) (h3 : h < 16) (hm : mI K w q ia fs I)  : hm_Ci l D K yX7_numbersOf cX7_numbersOf 3 .int 2 [.ref (q), .int (iI (x)), .int (iI (h))] w 0 0 (fun r w2 => r = iI (pN (mS I x) h) ∧ w2 = w) := by
  refine hm_enterI (by decide) (Nat.le_of_ble_eq_true rfl) ?_
  intro p e s m args below meth c E hr hnm
  show hm_V p l e (hm_rm 2 0 0) s m args below meth c D (hm_A w s.heap.size) 3 0 0 (MQ below (hm_Qi D w s.heap.size (fun r w2 => r = iI (pN (mS I x) h) ∧ w2 = w)) args s 0 0 (hm_A w s.heap.size)) w 0 [(0, .ref (q)), (1, .int (iI (x))), (2, .int (iI (h)))] []
  refine hv_aload_n E dX7_numbersOf_0 rfl 0 rfl rfl ?_
  refine hv_iload_n E dX7_numbersOf_1 rfl 1 rfl rfl ?_
  refine hv_sipush E dX7_numbersOf_2 (by decide +kernel) rfl ?_
  refine hv_iload_n E dX7_numbersOf_5 rfl 2 rfl rfl ?_
  refine hv_imul E dX7_numbersOf_6 rfl ?_
  refine hv_sipush E dX7_numbersOf_7 (by decide +kernel) rfl ?_
  refine hv_iload_n E dX7_numbersOf_10 rfl 2 rfl rfl ?_
  refine hv_imul E dX7_numbersOf_11 rfl ?_
  refine hv_sipush E dX7_numbersOf_12 (by decide +kernel) rfl ?_
  refine hv_iadd E dX7_numbersOf_15 rfl ?_
  refine hv_callVI (na := 3) (As := [.int (iI (x)), .int (iI (256 * h)), .int (iI ((256 * h) + 256))]) (st := []) E (c7_many l D K x (256 * h) ((256 * h) + 256) (by omega) (by omega) (by omega) (by omega) (by omega) hm) dX7_numbersOf_16 hm.1 (show vwCl[6]? = some (RX7, TX7, 7) from rfl) gL_X7_36 gV_X7_many gI_X7_many gC_X7_many gZ_X7 (by decide +kernel) rfl ⟨Nat.le_of_ble_eq_true rfl, Nat.le_of_ble_eq_true rfl⟩ (Nat.le_of_ble_eq_true rfl) ⟨Nat.zero_le _, Nat.zero_le _⟩ rfl rfl (fun r w2 hp => ?_)
  rw [hp.1, hp.2]
  show hm_V p l e (hm_rm 2 0 0) s m args below meth c D (hm_A w s.heap.size) 3 0 0 (MQ below (hm_Qi D w s.heap.size (fun r w2 => r = iI (pN (mS I x) h) ∧ w2 = w)) args s 0 0 (hm_A w s.heap.size)) w 19 [(0, .ref (q)), (1, .int (iI (x))), (2, .int (iI (h)))] [.int (iI ((ct (mS I x) (256 * h : Int).toNat (((256 * h) + 256) - (256 * h) : Int).toNat : Nat)))]
  exact hv_iret E dX7_numbersOf_19 hr ⟨by unfold pN; rw [show (256 * h).toNat = 256 * h.toNat by omega, show (256 * h + 256 - 256 * h).toNat = 256 by omega], rfl⟩
set_option maxHeartbeats 4000000 in
set_option maxRecDepth 100000 in
theorem c7_begins (l : Launch) (D : va_G) (K : Nat → ClassId) {w : hm_M} {q ia : Nat} {fs : List Value} {I : Nat → Bool} (x v : Int) (h0 : 0 ≤ x) (h1 : x ≤ 8) (h2 : 0 ≤ v) (h3 : v < 4096) (hm : mI K w q ia fs I)  : hm_Ci l D K yX7_begins cX7_begins 3 .boolean 1 [.ref (q), .int (iI (x)), .int (iI (v))] w 0 0 (fun r w2 => r = bI (mS I x v.toNat && (decide (v % 256 = 0) || !mS I x (v - 1).toNat)) ∧ w2 = w) := by
  refine hm_enterI (by decide) (Nat.le_of_ble_eq_true rfl) ?_
  intro p e s m args below meth c E hr hnm
  show hm_V p l e (hm_rm 1 0 0) s m args below meth c D (hm_A w s.heap.size) 3 0 0 (MQ below (hm_Qi D w s.heap.size (fun r w2 => r = bI (mS I x v.toNat && (decide (v % 256 = 0) || !mS I x (v - 1).toNat)) ∧ w2 = w)) args s 0 0 (hm_A w s.heap.size)) w 0 [(0, .ref (q)), (1, .int (iI (x))), (2, .int (iI (v)))] []
  refine hv_aload_n E dX7_begins_0 rfl 0 rfl rfl ?_
  refine hv_iload_n E dX7_begins_1 rfl 1 rfl rfl ?_
  refine hv_iload_n E dX7_begins_2 rfl 2 rfl rfl ?_
  refine hv_callVI (na := 2) (As := [.int (iI (x)), .int (iI (v))]) (st := []) E (c7_is l D K x v (by omega) (by omega) (by omega) (by omega) hm) dX7_begins_3 hm.1 (show vwCl[6]? = some (RX7, TX7, 7) from rfl) gL_X7_28 gV_X7_is gI_X7_is gC_X7_is gZ_X7 (by decide +kernel) rfl ⟨Nat.le_of_ble_eq_true rfl, Nat.le_of_ble_eq_true rfl⟩ (Nat.le_of_ble_eq_true rfl) ⟨Nat.zero_le _, Nat.zero_le _⟩ rfl rfl (fun r w2 hp => ?_)
  rw [hp.1, hp.2]
  show hm_V p l e (hm_rm 1 0 0) s m args below meth c D (hm_A w s.heap.size) 3 0 0 (MQ below (hm_Qi D w s.heap.size (fun r w2 => r = bI (mS I x v.toNat && (decide (v % 256 = 0) || !mS I x (v - 1).toNat)) ∧ w2 = w)) args s 0 0 (hm_A w s.heap.size)) w 6 [(0, .ref (q)), (1, .int (iI (x))), (2, .int (iI (v)))] [.int (bI (mS I x (v).toNat))]
  refine hv_if_eqB E 32 dX7_begins_6 (by decide) rfl (fun c1 => ?_) (fun c1 => ?_)
  · refine hv_iconst E dX7_begins_32 rfl ?_
    refine hv_topi (show iI (0) = bI (false) from rfl) ?_
    exact hv_zret E dX7_begins_33 hr ⟨by simp [c1], rfl⟩
  · refine hv_iload_n E dX7_begins_9 rfl 2 rfl rfl ?_
    refine hv_sipush E dX7_begins_10 (by decide +kernel) rfl ?_
    refine hv_iremR E dX7_begins_13 (by decide +kernel) rfl rfl ?_
    refine hv_topi (show (iI (v)) - (iI (v)) / (iI (256)) * (iI (256)) = iI (v % 256) from iI_rem256 h2 (by omega)) ?_
    refine hv_if_eq E 28 dX7_begins_14 (by decide) ⟨by omega, by omega⟩ rfl (fun c2 => ?_) (fun c2 => ?_)
    · skip
      refine hv_iconst E dX7_begins_28 rfl ?_
      refine hv_goto E 33 dX7_begins_29 (by decide) ?_
      refine hv_topi (show iI (1) = bI (true) from rfl) ?_
      exact hv_zret E dX7_begins_33 hr ⟨by simp [c1, c2], rfl⟩
    · skip
      refine hv_aload_n E dX7_begins_17 rfl 0 rfl rfl ?_
      refine hv_iload_n E dX7_begins_18 rfl 1 rfl rfl ?_
      refine hv_iload_n E dX7_begins_19 rfl 2 rfl rfl ?_
      refine hv_iconst E dX7_begins_20 rfl ?_
      refine hv_isub E dX7_begins_21 rfl ?_
      refine hv_callVI (na := 2) (As := [.int (iI (x)), .int (iI (v - 1))]) (st := []) E (c7_is l D K x (v - 1) (by omega) (by omega) (by omega) (by omega) hm) dX7_begins_22 hm.1 (show vwCl[6]? = some (RX7, TX7, 7) from rfl) gL_X7_28 gV_X7_is gI_X7_is gC_X7_is gZ_X7 (by decide +kernel) rfl ⟨Nat.le_of_ble_eq_true rfl, Nat.le_of_ble_eq_true rfl⟩ (Nat.le_of_ble_eq_true rfl) ⟨Nat.zero_le _, Nat.zero_le _⟩ rfl rfl (fun r w2 hp => ?_)
      rw [hp.1, hp.2]
      show hm_V p l e (hm_rm 1 0 0) s m args below meth c D (hm_A w s.heap.size) 3 0 0 (MQ below (hm_Qi D w s.heap.size (fun r w2 => r = bI (mS I x v.toNat && (decide (v % 256 = 0) || !mS I x (v - 1).toNat)) ∧ w2 = w)) args s 0 0 (hm_A w s.heap.size)) w 25 [(0, .ref (q)), (1, .int (iI (x))), (2, .int (iI (v)))] [.int (bI (mS I x (v - 1).toNat))]
      refine hv_if_neB E 32 dX7_begins_25 (by decide) rfl (fun c3 => ?_) (fun c3 => ?_)
      · refine hv_iconst E dX7_begins_32 rfl ?_
        refine hv_topi (show iI (0) = bI (false) from rfl) ?_
        exact hv_zret E dX7_begins_33 hr ⟨by rw [c1, decide_eq_false c2, c3]; rfl, rfl⟩
      · refine hv_iconst E dX7_begins_28 rfl ?_
        refine hv_goto E 33 dX7_begins_29 (by decide) ?_
        refine hv_topi (show iI (1) = bI (true) from rfl) ?_
        exact hv_zret E dX7_begins_33 hr ⟨by rw [c1, decide_eq_false c2, c3]; rfl, rfl⟩
set_option maxHeartbeats 4000000 in
set_option maxRecDepth 100000 in
theorem c7_runsOf (l : Launch) (D : va_G) (K : Nat → ClassId) {w : hm_M} {q ia : Nat} {fs : List Value} {I : Nat → Bool} (x h : Int) (h0 : 0 ≤ x) (h1 : x ≤ 8) (h2 : 0 ≤ h) (h3 : h < 16) (hm : mI K w q ia fs I)  : hm_Ci l D K yX7_runsOf cX7_runsOf 5 .int 2 [.ref (q), .int (iI (x)), .int (iI (h))] w 0 0 (fun r w2 => r = iI (pR (mS I x) h) ∧ w2 = w) := by
  refine hm_enterI (by decide) (Nat.le_of_ble_eq_true rfl) ?_
  intro p e s m args below meth c E hr hnm
  show hm_V p l e (hm_rm 2 0 0) s m args below meth c D (hm_A w s.heap.size) 5 0 0 (MQ below (hm_Qi D w s.heap.size (fun r w2 => r = iI (pR (mS I x) h) ∧ w2 = w)) args s 0 0 (hm_A w s.heap.size)) w 0 [(0, .ref (q)), (1, .int (iI (x))), (2, .int (iI (h)))] []
  refine hv_iconst E dX7_runsOf_0 rfl ?_
  refine hv_istore_n (lv2 := [(3, .int (iI (0))), (0, .ref (q)), (1, .int (iI (x))), (2, .int (iI (h)))]) E dX7_runsOf_1 rfl (by decide) rfl rfl ?_
  refine hv_sipush E dX7_runsOf_2 (by decide +kernel) rfl ?_
  refine hv_iload_n E dX7_runsOf_5 rfl 3 rfl rfl ?_
  refine hv_imul E dX7_runsOf_6 rfl ?_
  refine hv_istore (lv2 := [(4, .int (iI (256 * h))), (3, .int (iI (0))), (0, .ref (q)), (1, .int (iI (x))), (2, .int (iI (h)))]) E dX7_runsOf_7 (by decide) rfl rfl ?_
  have LP : ∀ (k : Nat) (j sm : Int), (256 * h + 256 - j < (k : Int)) → (256 * h ≤ j) → (j ≤ 256 * h + 256) → (sm = (ct (bg (mS I x) (256 * h.toNat)) 0 (j - 256 * h).toNat : Nat)) → hm_V p l e (hm_rm 2 0 0) s m args below meth c D (hm_A w s.heap.size) 5 0 0 (MQ below (hm_Qi D w s.heap.size (fun r w2 => r = iI (pR (mS I x) h) ∧ w2 = w)) args s 0 0 (hm_A w s.heap.size)) w 9 [(4, .int (iI (j))), (3, .int (iI (sm))), (0, .ref (q)), (1, .int (iI (x))), (2, .int (iI (h)))] [] := by
    intro k
    induction k with
    | zero =>
      intro j sm hk g0 g1 hs
      exact absurd hk (by omega)
    | succ k ih =>
      intro j sm hk g0 g1 hs
      refine hv_iload E dX7_runsOf_9 0 rfl rfl ?_
      refine hv_sipush E dX7_runsOf_11 (by decide +kernel) rfl ?_
      refine hv_iload_n E dX7_runsOf_14 rfl 4 rfl rfl ?_
      refine hv_imul E dX7_runsOf_15 rfl ?_
      refine hv_sipush E dX7_runsOf_16 (by decide +kernel) rfl ?_
      refine hv_iadd E dX7_runsOf_19 rfl ?_
      refine hv_icmp_ge E 47 dX7_runsOf_20 (by decide) ⟨by omega, by omega⟩ ⟨by omega, by omega⟩ rfl (fun c1 => ?_) (fun c1 => ?_)
      · skip
        refine hv_iload_n E dX7_runsOf_47 rfl 1 rfl rfl ?_
        exact hv_iret E dX7_runsOf_48 hr ⟨by unfold pR; rw [hs, show (j - 256 * h).toNat = 256 by omega], rfl⟩
      · skip
        refine hv_iload_n E dX7_runsOf_23 rfl 1 rfl rfl ?_
        refine hv_aload_n E dX7_runsOf_24 rfl 2 rfl rfl ?_
        refine hv_iload_n E dX7_runsOf_25 rfl 3 rfl rfl ?_
        refine hv_iload E dX7_runsOf_26 0 rfl rfl ?_
        refine hv_callVI (na := 2) (As := [.int (iI (x)), .int (iI (j))]) (st := [.int (iI (sm))]) E (c7_begins l D K x j (by omega) (by omega) (by omega) (by omega) hm) dX7_runsOf_28 hm.1 (show vwCl[6]? = some (RX7, TX7, 7) from rfl) gL_X7_44 gV_X7_begins gI_X7_begins gC_X7_begins gZ_X7 (by decide +kernel) rfl ⟨Nat.le_of_ble_eq_true rfl, Nat.le_of_ble_eq_true rfl⟩ (Nat.le_of_ble_eq_true rfl) ⟨Nat.zero_le _, Nat.zero_le _⟩ rfl rfl (fun r w2 hp => ?_)
        rw [hp.1, hp.2]
        show hm_V p l e (hm_rm 2 0 0) s m args below meth c D (hm_A w s.heap.size) 5 0 0 (MQ below (hm_Qi D w s.heap.size (fun r w2 => r = iI (pR (mS I x) h) ∧ w2 = w)) args s 0 0 (hm_A w s.heap.size)) w 31 [(4, .int (iI (j))), (3, .int (iI (sm))), (0, .ref (q)), (1, .int (iI (x))), (2, .int (iI (h)))] [.int (bI (mS I x (j).toNat && (decide (j % 256 = 0) || !mS I x (j - 1).toNat))), .int (iI (sm))]
        refine hv_if_eqB E 38 dX7_runsOf_31 (by decide) rfl (fun c2 => ?_) (fun c2 => ?_)
        · refine hv_iconst E dX7_runsOf_38 rfl ?_
          refine hv_iadd E dX7_runsOf_39 rfl ?_
          refine hv_istore_n (lv2 := [(3, .int (iI (sm + 0))), (4, .int (iI (j))), (0, .ref (q)), (1, .int (iI (x))), (2, .int (iI (h)))]) E dX7_runsOf_40 rfl (by decide) rfl rfl ?_
          refine hv_iinc (lv2 := [(4, .int (iI (j + 1))), (3, .int (iI (sm + 0))), (0, .ref (q)), (1, .int (iI (x))), (2, .int (iI (h)))]) E dX7_runsOf_41 1 rfl rfl (by decide) rfl rfl ?_
          refine hv_goto E 9 dX7_runsOf_44 (by decide) ?_
          refine hv_sub (lv2 := [(4, .int (iI (j + 1))), (3, .int (iI (sm + 0))), (0, .ref (q)), (1, .int (iI (x))), (2, .int (iI (h)))]) [0, 1, 2, 3, 4] rfl ?_
          exact ih (j + 1) _ (by omega) (by omega) (by omega) (by
            have hb : bg (mS I x) (256 * h.toNat) (0 + (j - 256 * h).toNat) = (mS I x j.toNat && (decide (j % 256 = 0) || !mS I x (j - 1).toNat)) := by
              unfold bg
              rw [Nat.zero_add, show 256 * h.toNat + (j - 256 * h).toNat = j.toNat by omega, show j.toNat - 1 = (j - 1).toNat by omega]
              congr 2
              congr 1
              apply propext; omega
            rw [show (j + 1 - 256 * h).toNat = (j - 256 * h).toNat + 1 by omega, ct_succ, hb, c2, hs]; rfl)
        · refine hv_iconst E dX7_runsOf_34 rfl ?_
          refine hv_goto E 39 dX7_runsOf_35 (by decide) ?_
          refine hv_iadd E dX7_runsOf_39 rfl ?_
          refine hv_istore_n (lv2 := [(3, .int (iI (sm + 1))), (4, .int (iI (j))), (0, .ref (q)), (1, .int (iI (x))), (2, .int (iI (h)))]) E dX7_runsOf_40 rfl (by decide) rfl rfl ?_
          refine hv_iinc (lv2 := [(4, .int (iI (j + 1))), (3, .int (iI (sm + 1))), (0, .ref (q)), (1, .int (iI (x))), (2, .int (iI (h)))]) E dX7_runsOf_41 1 rfl rfl (by decide) rfl rfl ?_
          refine hv_goto E 9 dX7_runsOf_44 (by decide) ?_
          refine hv_sub (lv2 := [(4, .int (iI (j + 1))), (3, .int (iI (sm + 1))), (0, .ref (q)), (1, .int (iI (x))), (2, .int (iI (h)))]) [0, 1, 2, 3, 4] rfl ?_
          exact ih (j + 1) _ (by omega) (by omega) (by omega) (by
            have hb : bg (mS I x) (256 * h.toNat) (0 + (j - 256 * h).toNat) = (mS I x j.toNat && (decide (j % 256 = 0) || !mS I x (j - 1).toNat)) := by
              unfold bg
              rw [Nat.zero_add, show 256 * h.toNat + (j - 256 * h).toNat = j.toNat by omega, show j.toNat - 1 = (j - 1).toNat by omega]
              congr 2
              congr 1
              apply propext; omega
            rw [show (j + 1 - 256 * h).toNat = (j - 256 * h).toNat + 1 by omega, ct_succ, hb, c2, hs]; rfl)
  refine hv_sub (lv2 := [(4, .int (iI (256 * h))), (3, .int (iI (0))), (0, .ref (q)), (1, .int (iI (x))), (2, .int (iI (h)))]) [0, 1, 2, 3, 4] rfl ?_
  exact LP 257 (256 * h) 0 (by omega) (by omega) (by omega) (by rw [show (256 * h - 256 * h).toNat = 0 by omega]; rfl)
set_option maxHeartbeats 4000000 in
set_option maxRecDepth 100000 in
theorem c7_bitsOf (l : Launch) (D : va_G) (K : Nat → ClassId) {w : hm_M} {q ia : Nat} {fs : List Value} {I : Nat → Bool} (x h : Int) (h0 : 0 ≤ x) (h1 : x ≤ 8) (h2 : 0 ≤ h) (h3 : h < 16) (hm : mI K w q ia fs I)  : hm_Ci l D K yX7_bitsOf cX7_bitsOf 6 .int 3 [.ref (q), .int (iI (x)), .int (iI (h))] w 0 0 (fun r w2 => r = iI (pB (mS I x) h) ∧ w2 = w) := by
  refine hm_enterI (by decide) (Nat.le_of_ble_eq_true rfl) ?_
  intro p e s m args below meth c E hr hnm
  show hm_V p l e (hm_rm 3 0 0) s m args below meth c D (hm_A w s.heap.size) 6 0 0 (MQ below (hm_Qi D w s.heap.size (fun r w2 => r = iI (pB (mS I x) h) ∧ w2 = w)) args s 0 0 (hm_A w s.heap.size)) w 0 [(0, .ref (q)), (1, .int (iI (x))), (2, .int (iI (h)))] []
  refine hv_bipush E dX7_bitsOf_0 (by decide +kernel) rfl ?_
  refine hv_aload_n E dX7_bitsOf_2 rfl 0 rfl rfl ?_
  refine hv_iload_n E dX7_bitsOf_3 rfl 1 rfl rfl ?_
  refine hv_iload_n E dX7_bitsOf_4 rfl 2 rfl rfl ?_
  refine hv_callVI (na := 2) (As := [.int (iI (x)), .int (iI (h))]) (st := [.int (iI (8))]) E (c7_numbersOf l D K x h (by omega) (by omega) (by omega) (by omega) hm) dX7_bitsOf_5 hm.1 (show vwCl[6]? = some (RX7, TX7, 7) from rfl) gL_X7_47 gV_X7_numbersOf gI_X7_numbersOf gC_X7_numbersOf gZ_X7 (by decide +kernel) rfl ⟨Nat.le_of_ble_eq_true rfl, Nat.le_of_ble_eq_true rfl⟩ (Nat.le_of_ble_eq_true rfl) ⟨Nat.zero_le _, Nat.zero_le _⟩ rfl rfl (fun r w2 hp => ?_)
  rw [hp.1, hp.2]
  show hm_V p l e (hm_rm 3 0 0) s m args below meth c D (hm_A w s.heap.size) 6 0 0 (MQ below (hm_Qi D w s.heap.size (fun r w2 => r = iI (pB (mS I x) h) ∧ w2 = w)) args s 0 0 (hm_A w s.heap.size)) w 8 [(0, .ref (q)), (1, .int (iI (x))), (2, .int (iI (h)))] [.int (iI (pN (mS I x) h)), .int (iI (8))]
  have hN := pN_b (mS I x) h
  refine hv_imul E dX7_bitsOf_8 rfl ?_
  refine hv_istore_n (lv2 := [(3, .int (iI (8 * (pN (mS I x) h)))), (0, .ref (q)), (1, .int (iI (x))), (2, .int (iI (h)))]) E dX7_bitsOf_9 rfl (by decide) rfl rfl ?_
  refine hv_bipush E dX7_bitsOf_10 (by decide +kernel) rfl ?_
  refine hv_aload_n E dX7_bitsOf_12 rfl 1 rfl rfl ?_
  refine hv_iload_n E dX7_bitsOf_13 rfl 2 rfl rfl ?_
  refine hv_iload_n E dX7_bitsOf_14 rfl 3 rfl rfl ?_
  refine hv_callVI (na := 2) (As := [.int (iI (x)), .int (iI (h))]) (st := [.int (iI (16))]) E (c7_runsOf l D K x h (by omega) (by omega) (by omega) (by omega) hm) dX7_bitsOf_15 hm.1 (show vwCl[6]? = some (RX7, TX7, 7) from rfl) gL_X7_50 gV_X7_runsOf gI_X7_runsOf gC_X7_runsOf gZ_X7 (by decide +kernel) rfl ⟨Nat.le_of_ble_eq_true rfl, Nat.le_of_ble_eq_true rfl⟩ (Nat.le_of_ble_eq_true rfl) ⟨Nat.zero_le _, Nat.zero_le _⟩ rfl rfl (fun r w2 hp => ?_)
  rw [hp.1, hp.2]
  show hm_V p l e (hm_rm 3 0 0) s m args below meth c D (hm_A w s.heap.size) 6 0 0 (MQ below (hm_Qi D w s.heap.size (fun r w2 => r = iI (pB (mS I x) h) ∧ w2 = w)) args s 0 0 (hm_A w s.heap.size)) w 18 [(3, .int (iI (8 * (pN (mS I x) h)))), (0, .ref (q)), (1, .int (iI (x))), (2, .int (iI (h)))] [.int (iI (pR (mS I x) h)), .int (iI (16))]
  have hR := pR_b (mS I x) h
  refine hv_imul E dX7_bitsOf_18 rfl ?_
  refine hv_istore (lv2 := [(4, .int (iI (16 * (pR (mS I x) h)))), (3, .int (iI (8 * (pN (mS I x) h)))), (0, .ref (q)), (1, .int (iI (x))), (2, .int (iI (h)))]) E dX7_bitsOf_19 (by decide) rfl rfl ?_
  refine hv_iload_n E dX7_bitsOf_21 rfl 1 rfl rfl ?_
  refine hv_sipush E dX7_bitsOf_22 (by decide +kernel) rfl ?_
  refine hv_icmp_ge E 32 dX7_bitsOf_25 (by decide) ⟨by omega, by omega⟩ ⟨by omega, by omega⟩ rfl (fun c1 => ?_) (fun c1 => ?_)
  · skip
    refine hv_sipush E dX7_bitsOf_32 (by decide +kernel) rfl ?_
    refine hv_istore (lv2 := [(5, .int (iI (256))), (4, .int (iI (16 * (pR (mS I x) h)))), (3, .int (iI (8 * (pN (mS I x) h)))), (0, .ref (q)), (1, .int (iI (x))), (2, .int (iI (h)))]) E dX7_bitsOf_35 (by decide) rfl rfl ?_
    refine hv_iload E dX7_bitsOf_37 1 rfl rfl ?_
    refine hv_iload E dX7_bitsOf_39 0 rfl rfl ?_
    refine hv_icmp_ge E 49 dX7_bitsOf_41 (by decide) ⟨by omega, by omega⟩ ⟨by omega, by omega⟩ rfl (fun c2 => ?_) (fun c2 => ?_)
    · skip
      refine hv_iload E dX7_bitsOf_49 0 rfl rfl ?_
      exact hv_iret E dX7_bitsOf_51 hr ⟨by rw [pB_min]; congr 1; (repeat' split) <;> omega, rfl⟩
    · skip
      refine hv_iload E dX7_bitsOf_44 1 rfl rfl ?_
      refine hv_goto E 51 dX7_bitsOf_46 (by decide) ?_
      exact hv_iret E dX7_bitsOf_51 hr ⟨by rw [pB_min]; congr 1; (repeat' split) <;> omega, rfl⟩
  · skip
    refine hv_iload_n E dX7_bitsOf_28 rfl 1 rfl rfl ?_
    refine hv_goto E 35 dX7_bitsOf_29 (by decide) ?_
    refine hv_istore (lv2 := [(5, .int (iI (8 * (pN (mS I x) h)))), (4, .int (iI (16 * (pR (mS I x) h)))), (3, .int (iI (8 * (pN (mS I x) h)))), (0, .ref (q)), (1, .int (iI (x))), (2, .int (iI (h)))]) E dX7_bitsOf_35 (by decide) rfl rfl ?_
    refine hv_iload E dX7_bitsOf_37 1 rfl rfl ?_
    refine hv_iload E dX7_bitsOf_39 0 rfl rfl ?_
    refine hv_icmp_ge E 49 dX7_bitsOf_41 (by decide) ⟨by omega, by omega⟩ ⟨by omega, by omega⟩ rfl (fun c3 => ?_) (fun c3 => ?_)
    · skip
      refine hv_iload E dX7_bitsOf_49 0 rfl rfl ?_
      exact hv_iret E dX7_bitsOf_51 hr ⟨by rw [pB_min]; congr 1; (repeat' split) <;> omega, rfl⟩
    · skip
      refine hv_iload E dX7_bitsOf_44 1 rfl rfl ?_
      refine hv_goto E 51 dX7_bitsOf_46 (by decide) ?_
      exact hv_iret E dX7_bitsOf_51 hr ⟨by rw [pB_min]; congr 1; (repeat' split) <;> omega, rfl⟩
set_option maxHeartbeats 4000000 in
set_option maxRecDepth 100000 in
theorem c7_formOf (l : Launch) (D : va_G) (K : Nat → ClassId) {w : hm_M} {q ia : Nat} {fs : List Value} {I : Nat → Bool} (x h : Int) (h0 : 0 ≤ x) (h1 : x ≤ 8) (h2 : 0 ≤ h) (h3 : h < 16) (hm : mI K w q ia fs I)  : hm_Ci l D K yX7_formOf cX7_formOf 4 .int 4 [.ref (q), .int (iI (x)), .int (iI (h))] w 0 0 (fun r w2 => r = iI (if pF (mS I x) h = -1 then 3 else pF (mS I x) h) ∧ w2 = w) := by
  refine hm_enterI (by decide) (Nat.le_of_ble_eq_true rfl) ?_
  intro p e s m args below meth c E hr hnm
  show hm_V p l e (hm_rm 4 0 0) s m args below meth c D (hm_A w s.heap.size) 4 0 0 (MQ below (hm_Qi D w s.heap.size (fun r w2 => r = iI (if pF (mS I x) h = -1 then 3 else pF (mS I x) h) ∧ w2 = w)) args s 0 0 (hm_A w s.heap.size)) w 0 [(0, .ref (q)), (1, .int (iI (x))), (2, .int (iI (h)))] []
  refine hv_aload_n E dX7_formOf_0 rfl 0 rfl rfl ?_
  refine hv_iload_n E dX7_formOf_1 rfl 1 rfl rfl ?_
  refine hv_iload_n E dX7_formOf_2 rfl 2 rfl rfl ?_
  refine hv_callVI (na := 2) (As := [.int (iI (x)), .int (iI (h))]) (st := []) E (c7_bitsOf l D K x h (by omega) (by omega) (by omega) (by omega) hm) dX7_formOf_3 hm.1 (show vwCl[6]? = some (RX7, TX7, 7) from rfl) gL_X7_53 gV_X7_bitsOf gI_X7_bitsOf gC_X7_bitsOf gZ_X7 (by decide +kernel) rfl ⟨Nat.le_of_ble_eq_true rfl, Nat.le_of_ble_eq_true rfl⟩ (Nat.le_of_ble_eq_true rfl) ⟨Nat.zero_le _, Nat.zero_le _⟩ rfl rfl (fun r w2 hp => ?_)
  rw [hp.1, hp.2]
  show hm_V p l e (hm_rm 4 0 0) s m args below meth c D (hm_A w s.heap.size) 4 0 0 (MQ below (hm_Qi D w s.heap.size (fun r w2 => r = iI (if pF (mS I x) h = -1 then 3 else pF (mS I x) h) ∧ w2 = w)) args s 0 0 (hm_A w s.heap.size)) w 6 [(0, .ref (q)), (1, .int (iI (x))), (2, .int (iI (h)))] [.int (iI (pB (mS I x) h))]
  have hB := pB_b (mS I x) h
  refine hv_istore_n (lv2 := [(3, .int (iI (pB (mS I x) h))), (0, .ref (q)), (1, .int (iI (x))), (2, .int (iI (h)))]) E dX7_formOf_6 rfl (by decide) rfl rfl ?_
  refine hv_iload_n E dX7_formOf_7 rfl 0 rfl rfl ?_
  refine hv_if_ne E 15 dX7_formOf_8 (by decide) ⟨by omega, by omega⟩ rfl (fun c1 => ?_) (fun c1 => ?_)
  · skip
    refine hv_iload_n E dX7_formOf_15 rfl 0 rfl rfl ?_
    refine hv_bipush E dX7_formOf_16 (by decide +kernel) rfl ?_
    refine hv_aload_n E dX7_formOf_18 rfl 1 rfl rfl ?_
    refine hv_iload_n E dX7_formOf_19 rfl 2 rfl rfl ?_
    refine hv_iload_n E dX7_formOf_20 rfl 3 rfl rfl ?_
    refine hv_callVI (na := 2) (As := [.int (iI (x)), .int (iI (h))]) (st := [.int (iI (8)), .int (iI (pB (mS I x) h))]) E (c7_numbersOf l D K x h (by omega) (by omega) (by omega) (by omega) hm) dX7_formOf_21 hm.1 (show vwCl[6]? = some (RX7, TX7, 7) from rfl) gL_X7_47 gV_X7_numbersOf gI_X7_numbersOf gC_X7_numbersOf gZ_X7 (by decide +kernel) rfl ⟨Nat.le_of_ble_eq_true rfl, Nat.le_of_ble_eq_true rfl⟩ (Nat.le_of_ble_eq_true rfl) ⟨Nat.zero_le _, Nat.zero_le _⟩ rfl rfl (fun r w2 hp => ?_)
    rw [hp.1, hp.2]
    show hm_V p l e (hm_rm 4 0 0) s m args below meth c D (hm_A w s.heap.size) 4 0 0 (MQ below (hm_Qi D w s.heap.size (fun r w2 => r = iI (if pF (mS I x) h = -1 then 3 else pF (mS I x) h) ∧ w2 = w)) args s 0 0 (hm_A w s.heap.size)) w 24 [(3, .int (iI (pB (mS I x) h))), (0, .ref (q)), (1, .int (iI (x))), (2, .int (iI (h)))] [.int (iI (pN (mS I x) h)), .int (iI (8)), .int (iI (pB (mS I x) h))]
    have hN := pN_b (mS I x) h
    refine hv_imul E dX7_formOf_24 rfl ?_
    refine hv_icmp_ne E 32 dX7_formOf_25 (by decide) ⟨by omega, by omega⟩ ⟨by omega, by omega⟩ rfl (fun c2 => ?_) (fun c2 => ?_)
    · skip
      refine hv_iload_n E dX7_formOf_32 rfl 0 rfl rfl ?_
      refine hv_sipush E dX7_formOf_33 (by decide +kernel) rfl ?_
      refine hv_icmp_ne E 43 dX7_formOf_36 (by decide) ⟨by omega, by omega⟩ ⟨by omega, by omega⟩ rfl (fun c3 => ?_) (fun c3 => ?_)
      · skip
        refine hv_iconst E dX7_formOf_43 rfl ?_
        exact hv_iret E dX7_formOf_44 hr ⟨by rw [← pF_mod]; congr 1; (repeat' split) <;> omega, rfl⟩
      · skip
        refine hv_iconst E dX7_formOf_39 rfl ?_
        refine hv_goto E 44 dX7_formOf_40 (by decide) ?_
        exact hv_iret E dX7_formOf_44 hr ⟨by rw [← pF_mod]; congr 1; (repeat' split) <;> omega, rfl⟩
    · skip
      refine hv_iconst E dX7_formOf_28 rfl ?_
      refine hv_goto E 44 dX7_formOf_29 (by decide) ?_
      exact hv_iret E dX7_formOf_44 hr ⟨by rw [← pF_mod]; congr 1; (repeat' split) <;> omega, rfl⟩
  · skip
    refine hv_iconst E dX7_formOf_11 rfl ?_
    refine hv_goto E 44 dX7_formOf_12 (by decide) ?_
    exact hv_iret E dX7_formOf_44 hr ⟨by rw [← pF_mod]; congr 1; (repeat' split) <;> omega, rfl⟩
set_option maxHeartbeats 4000000 in
set_option maxRecDepth 100000 in
theorem c7_piece (l : Launch) (D : va_G) (K : Nat → ClassId) {w : hm_M} {q ia : Nat} {fs : List Value} {I : Nat → Bool} (x h n : Int) (hx : iB x) (hh : iB h) (hn : iB n) (hm : mI K w q ia fs I)  : hm_Ci l D K yX7_piece cX7_piece 4 .int 5 [.ref (q), .int (iI (x)), .int (iI (h)), .int (iI (n))] w 0 0 (fun r w2 => r = iI (if 0 ≤ x ∧ x < 8 then (if (0 ≤ h ∧ h < 16) ∧ 0 ≤ n ∧ n < 4 then (if n = 0 then pF (mS I x) h else if n = 1 then pN (mS I x) h else if n = 2 then pR (mS I x) h else pB (mS I x) h) else -3) else -2) ∧ w2 = w) := by
  refine hm_enterI (by decide) (Nat.le_of_ble_eq_true rfl) ?_
  intro p e s m args below meth c E hr hnm
  show hm_V p l e (hm_rm 5 0 0) s m args below meth c D (hm_A w s.heap.size) 4 0 0 (MQ below (hm_Qi D w s.heap.size (fun r w2 => r = iI (if 0 ≤ x ∧ x < 8 then (if (0 ≤ h ∧ h < 16) ∧ 0 ≤ n ∧ n < 4 then (if n = 0 then pF (mS I x) h else if n = 1 then pN (mS I x) h else if n = 2 then pR (mS I x) h else pB (mS I x) h) else -3) else -2) ∧ w2 = w)) args s 0 0 (hm_A w s.heap.size)) w 0 [(0, .ref (q)), (1, .int (iI (x))), (2, .int (iI (h))), (3, .int (iI (n)))] []
  refine hv_iload_n E dX7_piece_0 rfl 1 rfl rfl ?_
  refine hv_callSI (na := 1) (As := [.int (iI (x))]) (st := []) E (c7_isSet l D K x hx) dX7_piece_1 gL_X7_21 gS_X7_isSet gC_X7_isSet gZ_X7 (by decide +kernel) rfl ⟨Nat.le_of_ble_eq_true rfl, Nat.le_of_ble_eq_true rfl⟩ (Nat.le_of_ble_eq_true rfl) ⟨Nat.zero_le _, Nat.zero_le _⟩ rfl rfl (fun r w2 hp => ?_)
  rw [hp.1, hp.2]
  show hm_V p l e (hm_rm 5 0 0) s m args below meth c D (hm_A w s.heap.size) 4 0 0 (MQ below (hm_Qi D w s.heap.size (fun r w2 => r = iI (if 0 ≤ x ∧ x < 8 then (if (0 ≤ h ∧ h < 16) ∧ 0 ≤ n ∧ n < 4 then (if n = 0 then pF (mS I x) h else if n = 1 then pN (mS I x) h else if n = 2 then pR (mS I x) h else pB (mS I x) h) else -3) else -2) ∧ w2 = w)) args s 0 0 (hm_A w s.heap.size)) w 4 [(0, .ref (q)), (1, .int (iI (x))), (2, .int (iI (h))), (3, .int (iI (n)))] [.int (bI (decide (0 ≤ x ∧ x ≤ 7)))]
  refine hv_if_neB E 10 dX7_piece_4 (by decide) rfl (fun c1 => ?_) (fun c1 => ?_)
  · have c1 := of_decide_eq_true c1
    refine hv_iload_n E dX7_piece_10 rfl 2 rfl rfl ?_
    refine hv_iconst E dX7_piece_11 rfl ?_
    refine hv_bipush E dX7_piece_12 (by decide +kernel) rfl ?_
    refine hv_callSI (na := 3) (As := [.int (iI (h)), .int (iI (0)), .int (iI (15))]) (st := []) E (c7_within l D K h 0 15 hh ⟨by omega, by omega⟩ ⟨by omega, by omega⟩) dX7_piece_14 gL_X7_17 gS_X7_within gC_X7_within gZ_X7 (by decide +kernel) rfl ⟨Nat.le_of_ble_eq_true rfl, Nat.le_of_ble_eq_true rfl⟩ (Nat.le_of_ble_eq_true rfl) ⟨Nat.zero_le _, Nat.zero_le _⟩ rfl rfl (fun r w2 hp => ?_)
    rw [hp.1, hp.2]
    show hm_V p l e (hm_rm 5 0 0) s m args below meth c D (hm_A w s.heap.size) 4 0 0 (MQ below (hm_Qi D w s.heap.size (fun r w2 => r = iI (if 0 ≤ x ∧ x < 8 then (if (0 ≤ h ∧ h < 16) ∧ 0 ≤ n ∧ n < 4 then (if n = 0 then pF (mS I x) h else if n = 1 then pN (mS I x) h else if n = 2 then pR (mS I x) h else pB (mS I x) h) else -3) else -2) ∧ w2 = w)) args s 0 0 (hm_A w s.heap.size)) w 17 [(0, .ref (q)), (1, .int (iI (x))), (2, .int (iI (h))), (3, .int (iI (n)))] [.int (bI (decide (0 ≤ h ∧ h ≤ 15)))]
    refine hv_if_eqB E 29 dX7_piece_17 (by decide) rfl (fun c2 => ?_) (fun c2 => ?_)
    · have c2 := of_decide_eq_false c2
      refine hv_bipush E dX7_piece_29 (by decide +kernel) rfl ?_
      exact hv_iret E dX7_piece_31 hr ⟨by congr 1; (repeat' split) <;> omega, rfl⟩
    · have c2 := of_decide_eq_true c2
      refine hv_iload_n E dX7_piece_20 rfl 3 rfl rfl ?_
      refine hv_iconst E dX7_piece_21 rfl ?_
      refine hv_iconst E dX7_piece_22 rfl ?_
      refine hv_callSI (na := 3) (As := [.int (iI (n)), .int (iI (0)), .int (iI (3))]) (st := []) E (c7_within l D K n 0 3 hn ⟨by omega, by omega⟩ ⟨by omega, by omega⟩) dX7_piece_23 gL_X7_17 gS_X7_within gC_X7_within gZ_X7 (by decide +kernel) rfl ⟨Nat.le_of_ble_eq_true rfl, Nat.le_of_ble_eq_true rfl⟩ (Nat.le_of_ble_eq_true rfl) ⟨Nat.zero_le _, Nat.zero_le _⟩ rfl rfl (fun r w2 hp => ?_)
      rw [hp.1, hp.2]
      show hm_V p l e (hm_rm 5 0 0) s m args below meth c D (hm_A w s.heap.size) 4 0 0 (MQ below (hm_Qi D w s.heap.size (fun r w2 => r = iI (if 0 ≤ x ∧ x < 8 then (if (0 ≤ h ∧ h < 16) ∧ 0 ≤ n ∧ n < 4 then (if n = 0 then pF (mS I x) h else if n = 1 then pN (mS I x) h else if n = 2 then pR (mS I x) h else pB (mS I x) h) else -3) else -2) ∧ w2 = w)) args s 0 0 (hm_A w s.heap.size)) w 26 [(0, .ref (q)), (1, .int (iI (x))), (2, .int (iI (h))), (3, .int (iI (n)))] [.int (bI (decide (0 ≤ n ∧ n ≤ 3)))]
      refine hv_if_neB E 32 dX7_piece_26 (by decide) rfl (fun c3 => ?_) (fun c3 => ?_)
      · have c3 := of_decide_eq_true c3
        refine hv_iload_n E dX7_piece_32 rfl 3 rfl rfl ?_
        refine hv_if_ne E 57 dX7_piece_33 (by decide) hn rfl (fun c4 => ?_) (fun c4 => ?_)
        · skip
          refine hv_iload_n E dX7_piece_57 rfl 3 rfl rfl ?_
          refine hv_iconst E dX7_piece_58 rfl ?_
          refine hv_icmp_ne E 71 dX7_piece_59 (by decide) hn ⟨by first | omega | (split <;> omega), by first | omega | (split <;> omega)⟩ rfl (fun c5 => ?_) (fun c5 => ?_)
          · skip
            refine hv_iload_n E dX7_piece_71 rfl 3 rfl rfl ?_
            refine hv_iconst E dX7_piece_72 rfl ?_
            refine hv_icmp_ne E 85 dX7_piece_73 (by decide) hn ⟨by first | omega | (split <;> omega), by first | omega | (split <;> omega)⟩ rfl (fun c6 => ?_) (fun c6 => ?_)
            · skip
              refine hv_aload_n E dX7_piece_85 rfl 0 rfl rfl ?_
              refine hv_iload_n E dX7_piece_86 rfl 1 rfl rfl ?_
              refine hv_iload_n E dX7_piece_87 rfl 2 rfl rfl ?_
              refine hv_callVI (na := 2) (As := [.int (iI (x)), .int (iI (h))]) (st := []) E (c7_bitsOf l D K x h (by omega) (by omega) (by omega) (by omega) hm) dX7_piece_88 hm.1 (show vwCl[6]? = some (RX7, TX7, 7) from rfl) gL_X7_53 gV_X7_bitsOf gI_X7_bitsOf gC_X7_bitsOf gZ_X7 (by decide +kernel) rfl ⟨Nat.le_of_ble_eq_true rfl, Nat.le_of_ble_eq_true rfl⟩ (Nat.le_of_ble_eq_true rfl) ⟨Nat.zero_le _, Nat.zero_le _⟩ rfl rfl (fun r w2 hp => ?_)
              rw [hp.1, hp.2]
              show hm_V p l e (hm_rm 5 0 0) s m args below meth c D (hm_A w s.heap.size) 4 0 0 (MQ below (hm_Qi D w s.heap.size (fun r w2 => r = iI (if 0 ≤ x ∧ x < 8 then (if (0 ≤ h ∧ h < 16) ∧ 0 ≤ n ∧ n < 4 then (if n = 0 then pF (mS I x) h else if n = 1 then pN (mS I x) h else if n = 2 then pR (mS I x) h else pB (mS I x) h) else -3) else -2) ∧ w2 = w)) args s 0 0 (hm_A w s.heap.size)) w 91 [(0, .ref (q)), (1, .int (iI (x))), (2, .int (iI (h))), (3, .int (iI (n)))] [.int (iI (pB (mS I x) h))]
              have hB := pB_b (mS I x) h
              exact hv_iret E dX7_piece_91 hr ⟨by congr 1; (repeat' split) <;> omega, rfl⟩
            · skip
              refine hv_aload_n E dX7_piece_76 rfl 0 rfl rfl ?_
              refine hv_iload_n E dX7_piece_77 rfl 1 rfl rfl ?_
              refine hv_iload_n E dX7_piece_78 rfl 2 rfl rfl ?_
              refine hv_callVI (na := 2) (As := [.int (iI (x)), .int (iI (h))]) (st := []) E (c7_runsOf l D K x h (by omega) (by omega) (by omega) (by omega) hm) dX7_piece_79 hm.1 (show vwCl[6]? = some (RX7, TX7, 7) from rfl) gL_X7_50 gV_X7_runsOf gI_X7_runsOf gC_X7_runsOf gZ_X7 (by decide +kernel) rfl ⟨Nat.le_of_ble_eq_true rfl, Nat.le_of_ble_eq_true rfl⟩ (Nat.le_of_ble_eq_true rfl) ⟨Nat.zero_le _, Nat.zero_le _⟩ rfl rfl (fun r w2 hp => ?_)
              rw [hp.1, hp.2]
              show hm_V p l e (hm_rm 5 0 0) s m args below meth c D (hm_A w s.heap.size) 4 0 0 (MQ below (hm_Qi D w s.heap.size (fun r w2 => r = iI (if 0 ≤ x ∧ x < 8 then (if (0 ≤ h ∧ h < 16) ∧ 0 ≤ n ∧ n < 4 then (if n = 0 then pF (mS I x) h else if n = 1 then pN (mS I x) h else if n = 2 then pR (mS I x) h else pB (mS I x) h) else -3) else -2) ∧ w2 = w)) args s 0 0 (hm_A w s.heap.size)) w 82 [(0, .ref (q)), (1, .int (iI (x))), (2, .int (iI (h))), (3, .int (iI (n)))] [.int (iI (pR (mS I x) h))]
              have hR := pR_b (mS I x) h
              refine hv_goto E 91 dX7_piece_82 (by decide) ?_
              exact hv_iret E dX7_piece_91 hr ⟨by congr 1; (repeat' split) <;> omega, rfl⟩
          · skip
            refine hv_aload_n E dX7_piece_62 rfl 0 rfl rfl ?_
            refine hv_iload_n E dX7_piece_63 rfl 1 rfl rfl ?_
            refine hv_iload_n E dX7_piece_64 rfl 2 rfl rfl ?_
            refine hv_callVI (na := 2) (As := [.int (iI (x)), .int (iI (h))]) (st := []) E (c7_numbersOf l D K x h (by omega) (by omega) (by omega) (by omega) hm) dX7_piece_65 hm.1 (show vwCl[6]? = some (RX7, TX7, 7) from rfl) gL_X7_47 gV_X7_numbersOf gI_X7_numbersOf gC_X7_numbersOf gZ_X7 (by decide +kernel) rfl ⟨Nat.le_of_ble_eq_true rfl, Nat.le_of_ble_eq_true rfl⟩ (Nat.le_of_ble_eq_true rfl) ⟨Nat.zero_le _, Nat.zero_le _⟩ rfl rfl (fun r w2 hp => ?_)
            rw [hp.1, hp.2]
            show hm_V p l e (hm_rm 5 0 0) s m args below meth c D (hm_A w s.heap.size) 4 0 0 (MQ below (hm_Qi D w s.heap.size (fun r w2 => r = iI (if 0 ≤ x ∧ x < 8 then (if (0 ≤ h ∧ h < 16) ∧ 0 ≤ n ∧ n < 4 then (if n = 0 then pF (mS I x) h else if n = 1 then pN (mS I x) h else if n = 2 then pR (mS I x) h else pB (mS I x) h) else -3) else -2) ∧ w2 = w)) args s 0 0 (hm_A w s.heap.size)) w 68 [(0, .ref (q)), (1, .int (iI (x))), (2, .int (iI (h))), (3, .int (iI (n)))] [.int (iI (pN (mS I x) h))]
            have hN := pN_b (mS I x) h
            refine hv_goto E 91 dX7_piece_68 (by decide) ?_
            exact hv_iret E dX7_piece_91 hr ⟨by congr 1; (repeat' split) <;> omega, rfl⟩
        · skip
          refine hv_aload_n E dX7_piece_36 rfl 0 rfl rfl ?_
          refine hv_iload_n E dX7_piece_37 rfl 1 rfl rfl ?_
          refine hv_iload_n E dX7_piece_38 rfl 2 rfl rfl ?_
          refine hv_callVI (na := 2) (As := [.int (iI (x)), .int (iI (h))]) (st := []) E (c7_formOf l D K x h (by omega) (by omega) (by omega) (by omega) hm) dX7_piece_39 hm.1 (show vwCl[6]? = some (RX7, TX7, 7) from rfl) gL_X7_56 gV_X7_formOf gI_X7_formOf gC_X7_formOf gZ_X7 (by decide +kernel) rfl ⟨Nat.le_of_ble_eq_true rfl, Nat.le_of_ble_eq_true rfl⟩ (Nat.le_of_ble_eq_true rfl) ⟨Nat.zero_le _, Nat.zero_le _⟩ rfl rfl (fun r w2 hp => ?_)
          rw [hp.1, hp.2]
          show hm_V p l e (hm_rm 5 0 0) s m args below meth c D (hm_A w s.heap.size) 4 0 0 (MQ below (hm_Qi D w s.heap.size (fun r w2 => r = iI (if 0 ≤ x ∧ x < 8 then (if (0 ≤ h ∧ h < 16) ∧ 0 ≤ n ∧ n < 4 then (if n = 0 then pF (mS I x) h else if n = 1 then pN (mS I x) h else if n = 2 then pR (mS I x) h else pB (mS I x) h) else -3) else -2) ∧ w2 = w)) args s 0 0 (hm_A w s.heap.size)) w 42 [(0, .ref (q)), (1, .int (iI (x))), (2, .int (iI (h))), (3, .int (iI (n)))] [.int (iI (if pF (mS I x) h = -1 then 3 else pF (mS I x) h))]
          have hF := pF_b (mS I x) h
          refine hv_iconst E dX7_piece_42 rfl ?_
          refine hv_icmp_ne E 50 dX7_piece_43 (by decide) ⟨by first | omega | (split <;> omega), by first | omega | (split <;> omega)⟩ ⟨by first | omega | (split <;> omega), by first | omega | (split <;> omega)⟩ rfl (fun c7 => ?_) (fun c7 => ?_)
          · skip
            refine hv_aload_n E dX7_piece_50 rfl 0 rfl rfl ?_
            refine hv_iload_n E dX7_piece_51 rfl 1 rfl rfl ?_
            refine hv_iload_n E dX7_piece_52 rfl 2 rfl rfl ?_
            refine hv_callVI (na := 2) (As := [.int (iI (x)), .int (iI (h))]) (st := []) E (c7_formOf l D K x h (by omega) (by omega) (by omega) (by omega) hm) dX7_piece_53 hm.1 (show vwCl[6]? = some (RX7, TX7, 7) from rfl) gL_X7_56 gV_X7_formOf gI_X7_formOf gC_X7_formOf gZ_X7 (by decide +kernel) rfl ⟨Nat.le_of_ble_eq_true rfl, Nat.le_of_ble_eq_true rfl⟩ (Nat.le_of_ble_eq_true rfl) ⟨Nat.zero_le _, Nat.zero_le _⟩ rfl rfl (fun r w2 hp => ?_)
            rw [hp.1, hp.2]
            show hm_V p l e (hm_rm 5 0 0) s m args below meth c D (hm_A w s.heap.size) 4 0 0 (MQ below (hm_Qi D w s.heap.size (fun r w2 => r = iI (if 0 ≤ x ∧ x < 8 then (if (0 ≤ h ∧ h < 16) ∧ 0 ≤ n ∧ n < 4 then (if n = 0 then pF (mS I x) h else if n = 1 then pN (mS I x) h else if n = 2 then pR (mS I x) h else pB (mS I x) h) else -3) else -2) ∧ w2 = w)) args s 0 0 (hm_A w s.heap.size)) w 56 [(0, .ref (q)), (1, .int (iI (x))), (2, .int (iI (h))), (3, .int (iI (n)))] [.int (iI (if pF (mS I x) h = -1 then 3 else pF (mS I x) h))]
            have hF := pF_b (mS I x) h
            exact hv_iret E dX7_piece_56 hr ⟨by congr 1; (repeat' split) <;> omega, rfl⟩
          · skip
            refine hv_iconst E dX7_piece_46 rfl ?_
            refine hv_goto E 56 dX7_piece_47 (by decide) ?_
            exact hv_iret E dX7_piece_56 hr ⟨by congr 1; (repeat' split) <;> omega, rfl⟩
      · have c3 := of_decide_eq_false c3
        refine hv_bipush E dX7_piece_29 (by decide +kernel) rfl ?_
        exact hv_iret E dX7_piece_31 hr ⟨by congr 1; (repeat' split) <;> omega, rfl⟩
  · have c1 := of_decide_eq_false c1
    refine hv_bipush E dX7_piece_7 (by decide +kernel) rfl ?_
    exact hv_iret E dX7_piece_9 hr ⟨by congr 1; (repeat' split) <;> omega, rfl⟩
set_option maxHeartbeats 4000000 in
set_option maxRecDepth 100000 in
theorem c7_cost (l : Launch) (D : va_G) (K : Nat → ClassId) {w : hm_M} {q ia : Nat} {fs : List Value} {I : Nat → Bool} (x : Int) (hx : iB x) (hm : mI K w q ia fs I)  : hm_Ci l D K yX7_cost cX7_cost 4 .int 4 [.ref (q), .int (iI (x))] w 0 0 (fun r w2 => r = iI (if 0 ≤ x ∧ x < 8 then cs (mS I x) 16 else -2) ∧ w2 = w) := by
  refine hm_enterI (by decide) (Nat.le_of_ble_eq_true rfl) ?_
  intro p e s m args below meth c E hr hnm
  show hm_V p l e (hm_rm 4 0 0) s m args below meth c D (hm_A w s.heap.size) 4 0 0 (MQ below (hm_Qi D w s.heap.size (fun r w2 => r = iI (if 0 ≤ x ∧ x < 8 then cs (mS I x) 16 else -2) ∧ w2 = w)) args s 0 0 (hm_A w s.heap.size)) w 0 [(0, .ref (q)), (1, .int (iI (x)))] []
  refine hv_iload_n E dX7_cost_0 rfl 1 rfl rfl ?_
  refine hv_callSI (na := 1) (As := [.int (iI (x))]) (st := []) E (c7_isSet l D K x hx) dX7_cost_1 gL_X7_21 gS_X7_isSet gC_X7_isSet gZ_X7 (by decide +kernel) rfl ⟨Nat.le_of_ble_eq_true rfl, Nat.le_of_ble_eq_true rfl⟩ (Nat.le_of_ble_eq_true rfl) ⟨Nat.zero_le _, Nat.zero_le _⟩ rfl rfl (fun r w2 hp => ?_)
  rw [hp.1, hp.2]
  show hm_V p l e (hm_rm 4 0 0) s m args below meth c D (hm_A w s.heap.size) 4 0 0 (MQ below (hm_Qi D w s.heap.size (fun r w2 => r = iI (if 0 ≤ x ∧ x < 8 then cs (mS I x) 16 else -2) ∧ w2 = w)) args s 0 0 (hm_A w s.heap.size)) w 4 [(0, .ref (q)), (1, .int (iI (x)))] [.int (bI (decide (0 ≤ x ∧ x ≤ 7)))]
  refine hv_if_neB E 10 dX7_cost_4 (by decide) rfl (fun c1 => ?_) (fun c1 => ?_)
  · have c1 := of_decide_eq_true c1
    refine hv_iconst E dX7_cost_10 rfl ?_
    refine hv_istore_n (lv2 := [(2, .int (iI (0))), (0, .ref (q)), (1, .int (iI (x)))]) E dX7_cost_11 rfl (by decide) rfl rfl ?_
    refine hv_iconst E dX7_cost_12 rfl ?_
    refine hv_istore_n (lv2 := [(3, .int (iI (0))), (2, .int (iI (0))), (0, .ref (q)), (1, .int (iI (x)))]) E dX7_cost_13 rfl (by decide) rfl rfl ?_
    have hX : 0 ≤ x ∧ x < 8 := by omega
    have LP : ∀ (k : Nat) (j sm : Int), (16 - j < (k : Int)) → (0 ≤ j) → (j ≤ 16) → (sm = cs (mS I x) j.toNat) → hm_V p l e (hm_rm 4 0 0) s m args below meth c D (hm_A w s.heap.size) 4 0 0 (MQ below (hm_Qi D w s.heap.size (fun r w2 => r = iI (if 0 ≤ x ∧ x < 8 then cs (mS I x) 16 else -2) ∧ w2 = w)) args s 0 0 (hm_A w s.heap.size)) w 14 [(3, .int (iI (j))), (2, .int (iI (sm))), (0, .ref (q)), (1, .int (iI (x)))] [] := by
      intro k
      induction k with
      | zero =>
        intro j sm hk g0 g1 hs
        exact absurd hk (by omega)
      | succ k ih =>
        intro j sm hk g0 g1 hs
        refine hv_iload_n E dX7_cost_14 rfl 0 rfl rfl ?_
        refine hv_bipush E dX7_cost_15 (by decide +kernel) rfl ?_
        refine hv_icmp_ge E 51 dX7_cost_17 (by decide) ⟨by omega, by omega⟩ ⟨by omega, by omega⟩ rfl (fun c2 => ?_) (fun c2 => ?_)
        · skip
          refine hv_iload_n E dX7_cost_51 rfl 1 rfl rfl ?_
          exact hv_iret E dX7_cost_52 hr ⟨by rw [if_pos hX, hs, show j.toNat = 16 by omega], rfl⟩
        · skip
          refine hv_iload_n E dX7_cost_20 rfl 1 rfl rfl ?_
          refine hv_aload_n E dX7_cost_21 rfl 2 rfl rfl ?_
          refine hv_iload_n E dX7_cost_22 rfl 3 rfl rfl ?_
          refine hv_iload_n E dX7_cost_23 rfl 0 rfl rfl ?_
          refine hv_callVI (na := 2) (As := [.int (iI (x)), .int (iI (j))]) (st := [.int (iI (sm))]) E (c7_numbersOf l D K x j (by omega) (by omega) (by omega) (by omega) hm) dX7_cost_24 hm.1 (show vwCl[6]? = some (RX7, TX7, 7) from rfl) gL_X7_47 gV_X7_numbersOf gI_X7_numbersOf gC_X7_numbersOf gZ_X7 (by decide +kernel) rfl ⟨Nat.le_of_ble_eq_true rfl, Nat.le_of_ble_eq_true rfl⟩ (Nat.le_of_ble_eq_true rfl) ⟨Nat.zero_le _, Nat.zero_le _⟩ rfl rfl (fun r w2 hp => ?_)
          rw [hp.1, hp.2]
          show hm_V p l e (hm_rm 4 0 0) s m args below meth c D (hm_A w s.heap.size) 4 0 0 (MQ below (hm_Qi D w s.heap.size (fun r w2 => r = iI (if 0 ≤ x ∧ x < 8 then cs (mS I x) 16 else -2) ∧ w2 = w)) args s 0 0 (hm_A w s.heap.size)) w 27 [(3, .int (iI (j))), (2, .int (iI (sm))), (0, .ref (q)), (1, .int (iI (x)))] [.int (iI (pN (mS I x) j)), .int (iI (sm))]
          have hN := pN_b (mS I x) j
          refine hv_if_le E 42 dX7_cost_27 (by decide) ⟨by omega, by omega⟩ rfl (fun c3 => ?_) (fun c3 => ?_)
          · skip
            refine hv_iconst E dX7_cost_42 rfl ?_
            refine hv_iadd E dX7_cost_43 rfl ?_
            refine hv_istore_n (lv2 := [(2, .int (iI (sm + 0))), (3, .int (iI (j))), (0, .ref (q)), (1, .int (iI (x)))]) E dX7_cost_44 rfl (by decide) rfl rfl ?_
            refine hv_iinc (lv2 := [(3, .int (iI (j + 1))), (2, .int (iI (sm + 0))), (0, .ref (q)), (1, .int (iI (x)))]) E dX7_cost_45 1 rfl rfl (by decide) rfl rfl ?_
            refine hv_goto E 14 dX7_cost_48 (by decide) ?_
            refine hv_sub (lv2 := [(3, .int (iI (j + 1))), (2, .int (iI (sm + 0))), (0, .ref (q)), (1, .int (iI (x)))]) [0, 1, 2, 3] rfl ?_
            exact ih (j + 1) _ (by omega) (by omega) (by omega) (by
                  rw [show (j + 1).toNat = j.toNat + 1 by omega]
                  simp only [cs]
                  rw [Int.toNat_of_nonneg g0, hs]
                  split <;> omega)
          · skip
            refine hv_bipush E dX7_cost_30 (by decide +kernel) rfl ?_
            refine hv_aload_n E dX7_cost_32 rfl 2 rfl rfl ?_
            refine hv_iload_n E dX7_cost_33 rfl 3 rfl rfl ?_
            refine hv_iload_n E dX7_cost_34 rfl 0 rfl rfl ?_
            refine hv_callVI (na := 2) (As := [.int (iI (x)), .int (iI (j))]) (st := [.int (iI (16)), .int (iI (sm))]) E (c7_bitsOf l D K x j (by omega) (by omega) (by omega) (by omega) hm) dX7_cost_35 hm.1 (show vwCl[6]? = some (RX7, TX7, 7) from rfl) gL_X7_53 gV_X7_bitsOf gI_X7_bitsOf gC_X7_bitsOf gZ_X7 (by decide +kernel) rfl ⟨Nat.le_of_ble_eq_true rfl, Nat.le_of_ble_eq_true rfl⟩ (Nat.le_of_ble_eq_true rfl) ⟨Nat.zero_le _, Nat.zero_le _⟩ rfl rfl (fun r w2 hp => ?_)
            rw [hp.1, hp.2]
            show hm_V p l e (hm_rm 4 0 0) s m args below meth c D (hm_A w s.heap.size) 4 0 0 (MQ below (hm_Qi D w s.heap.size (fun r w2 => r = iI (if 0 ≤ x ∧ x < 8 then cs (mS I x) 16 else -2) ∧ w2 = w)) args s 0 0 (hm_A w s.heap.size)) w 38 [(3, .int (iI (j))), (2, .int (iI (sm))), (0, .ref (q)), (1, .int (iI (x)))] [.int (iI (pB (mS I x) j)), .int (iI (16)), .int (iI (sm))]
            have hB := pB_b (mS I x) j
            refine hv_iadd E dX7_cost_38 rfl ?_
            refine hv_goto E 43 dX7_cost_39 (by decide) ?_
            refine hv_iadd E dX7_cost_43 rfl ?_
            refine hv_istore_n (lv2 := [(2, .int (iI (sm + (16 + (pB (mS I x) j))))), (3, .int (iI (j))), (0, .ref (q)), (1, .int (iI (x)))]) E dX7_cost_44 rfl (by decide) rfl rfl ?_
            refine hv_iinc (lv2 := [(3, .int (iI (j + 1))), (2, .int (iI (sm + (16 + (pB (mS I x) j))))), (0, .ref (q)), (1, .int (iI (x)))]) E dX7_cost_45 1 rfl rfl (by decide) rfl rfl ?_
            refine hv_goto E 14 dX7_cost_48 (by decide) ?_
            refine hv_sub (lv2 := [(3, .int (iI (j + 1))), (2, .int (iI (sm + (16 + (pB (mS I x) j))))), (0, .ref (q)), (1, .int (iI (x)))]) [0, 1, 2, 3] rfl ?_
            exact ih (j + 1) _ (by omega) (by omega) (by omega) (by
                  rw [show (j + 1).toNat = j.toNat + 1 by omega]
                  simp only [cs]
                  rw [Int.toNat_of_nonneg g0, hs]
                  split <;> omega)
    refine hv_sub (lv2 := [(3, .int (iI (0))), (2, .int (iI (0))), (0, .ref (q)), (1, .int (iI (x)))]) [0, 1, 2, 3] rfl ?_
    exact LP 17 0 0 (by omega) (by omega) (by omega) rfl
  · have c1 := of_decide_eq_false c1
    refine hv_bipush E dX7_cost_7 (by decide +kernel) rfl ?_
    exact hv_iret E dX7_cost_9 hr ⟨(by (repeat (first | rw [if_pos (by omega)] | rw [if_neg (by omega)])) <;> first | done | rfl), rfl⟩
set_option maxHeartbeats 4000000 in
set_option maxRecDepth 100000 in
theorem c7_join (l : Launch) (D : va_G) (K : Nat → ClassId) {w : hm_M} {q ia : Nat} {fs : List Value} {I : Nat → Bool} (x y z n : Int) (hx : iB x) (hy : iB y) (hz : iB z) (hn : iB n) (hm : mI K w q ia fs I)  : hm_Ci l D K yX7_join cX7_join 8 .int 2 [.ref (q), .int (iI (x)), .int (iI (y)), .int (iI (z)), .int (iI (n))] w 0 0 (fun r w2 => r = iI (if ((0 ≤ x ∧ x < 8) ∧ (0 ≤ y ∧ y < 8) ∧ 0 ≤ z ∧ z < 8) then (if 0 ≤ n ∧ n < 4 then (ct (fun v => jb n (mS I y v) (mS I z v)) 0 4096 : Nat) else -3) else -2) ∧ w2 = if ((0 ≤ x ∧ x < 8) ∧ (0 ≤ y ∧ y < 8) ∧ 0 ≤ z ∧ z < 8) ∧ 0 ≤ n ∧ n < 4 then hm_up w ia (mE K (jI I n x y z)) else w) := by
  refine hm_enterI (by decide) (Nat.le_of_ble_eq_true rfl) ?_
  intro p e s m args below meth c E hr hnm
  show hm_V p l e (hm_rm 2 0 0) s m args below meth c D (hm_A w s.heap.size) 8 0 0 (MQ below (hm_Qi D w s.heap.size (fun r w2 => r = iI (if ((0 ≤ x ∧ x < 8) ∧ (0 ≤ y ∧ y < 8) ∧ 0 ≤ z ∧ z < 8) then (if 0 ≤ n ∧ n < 4 then (ct (fun v => jb n (mS I y v) (mS I z v)) 0 4096 : Nat) else -3) else -2) ∧ w2 = if ((0 ≤ x ∧ x < 8) ∧ (0 ≤ y ∧ y < 8) ∧ 0 ≤ z ∧ z < 8) ∧ 0 ≤ n ∧ n < 4 then hm_up w ia (mE K (jI I n x y z)) else w)) args s 0 0 (hm_A w s.heap.size)) w 0 [(0, .ref (q)), (1, .int (iI (x))), (2, .int (iI (y))), (3, .int (iI (z))), (4, .int (iI (n)))] []
  refine hv_iload_n E dX7_join_0 rfl 1 rfl rfl ?_
  refine hv_callSI (na := 1) (As := [.int (iI (x))]) (st := []) E (c7_isSet l D K x hx) dX7_join_1 gL_X7_21 gS_X7_isSet gC_X7_isSet gZ_X7 (by decide +kernel) rfl ⟨Nat.le_of_ble_eq_true rfl, Nat.le_of_ble_eq_true rfl⟩ (Nat.le_of_ble_eq_true rfl) ⟨Nat.zero_le _, Nat.zero_le _⟩ rfl rfl (fun r w2 hp => ?_)
  rw [hp.1, hp.2]
  show hm_V p l e (hm_rm 2 0 0) s m args below meth c D (hm_A w s.heap.size) 8 0 0 (MQ below (hm_Qi D w s.heap.size (fun r w2 => r = iI (if ((0 ≤ x ∧ x < 8) ∧ (0 ≤ y ∧ y < 8) ∧ 0 ≤ z ∧ z < 8) then (if 0 ≤ n ∧ n < 4 then (ct (fun v => jb n (mS I y v) (mS I z v)) 0 4096 : Nat) else -3) else -2) ∧ w2 = if ((0 ≤ x ∧ x < 8) ∧ (0 ≤ y ∧ y < 8) ∧ 0 ≤ z ∧ z < 8) ∧ 0 ≤ n ∧ n < 4 then hm_up w ia (mE K (jI I n x y z)) else w)) args s 0 0 (hm_A w s.heap.size)) w 4 [(0, .ref (q)), (1, .int (iI (x))), (2, .int (iI (y))), (3, .int (iI (z))), (4, .int (iI (n)))] [.int (bI (decide (0 ≤ x ∧ x ≤ 7)))]
  refine hv_if_eqB E 21 dX7_join_4 (by decide) rfl (fun c1 => ?_) (fun c1 => ?_)
  · have c1 := of_decide_eq_false c1
    refine hv_bipush E dX7_join_21 (by decide +kernel) rfl ?_
    exact hv_iret E dX7_join_23 hr ⟨(by (repeat (first | rw [if_pos (by omega)] | rw [if_neg (by omega)])) <;> first | done | rfl), (by (repeat (first | rw [if_pos (by omega)] | rw [if_neg (by omega)])) <;> first | done | rfl)⟩
  · have c1 := of_decide_eq_true c1
    refine hv_iload_n E dX7_join_7 rfl 2 rfl rfl ?_
    refine hv_callSI (na := 1) (As := [.int (iI (y))]) (st := []) E (c7_isSet l D K y hy) dX7_join_8 gL_X7_21 gS_X7_isSet gC_X7_isSet gZ_X7 (by decide +kernel) rfl ⟨Nat.le_of_ble_eq_true rfl, Nat.le_of_ble_eq_true rfl⟩ (Nat.le_of_ble_eq_true rfl) ⟨Nat.zero_le _, Nat.zero_le _⟩ rfl rfl (fun r w2 hp => ?_)
    rw [hp.1, hp.2]
    show hm_V p l e (hm_rm 2 0 0) s m args below meth c D (hm_A w s.heap.size) 8 0 0 (MQ below (hm_Qi D w s.heap.size (fun r w2 => r = iI (if ((0 ≤ x ∧ x < 8) ∧ (0 ≤ y ∧ y < 8) ∧ 0 ≤ z ∧ z < 8) then (if 0 ≤ n ∧ n < 4 then (ct (fun v => jb n (mS I y v) (mS I z v)) 0 4096 : Nat) else -3) else -2) ∧ w2 = if ((0 ≤ x ∧ x < 8) ∧ (0 ≤ y ∧ y < 8) ∧ 0 ≤ z ∧ z < 8) ∧ 0 ≤ n ∧ n < 4 then hm_up w ia (mE K (jI I n x y z)) else w)) args s 0 0 (hm_A w s.heap.size)) w 11 [(0, .ref (q)), (1, .int (iI (x))), (2, .int (iI (y))), (3, .int (iI (z))), (4, .int (iI (n)))] [.int (bI (decide (0 ≤ y ∧ y ≤ 7)))]
    refine hv_if_eqB E 21 dX7_join_11 (by decide) rfl (fun c2 => ?_) (fun c2 => ?_)
    · have c2 := of_decide_eq_false c2
      refine hv_bipush E dX7_join_21 (by decide +kernel) rfl ?_
      exact hv_iret E dX7_join_23 hr ⟨(by (repeat (first | rw [if_pos (by omega)] | rw [if_neg (by omega)])) <;> first | done | rfl), (by (repeat (first | rw [if_pos (by omega)] | rw [if_neg (by omega)])) <;> first | done | rfl)⟩
    · have c2 := of_decide_eq_true c2
      refine hv_iload_n E dX7_join_14 rfl 3 rfl rfl ?_
      refine hv_callSI (na := 1) (As := [.int (iI (z))]) (st := []) E (c7_isSet l D K z hz) dX7_join_15 gL_X7_21 gS_X7_isSet gC_X7_isSet gZ_X7 (by decide +kernel) rfl ⟨Nat.le_of_ble_eq_true rfl, Nat.le_of_ble_eq_true rfl⟩ (Nat.le_of_ble_eq_true rfl) ⟨Nat.zero_le _, Nat.zero_le _⟩ rfl rfl (fun r w2 hp => ?_)
      rw [hp.1, hp.2]
      show hm_V p l e (hm_rm 2 0 0) s m args below meth c D (hm_A w s.heap.size) 8 0 0 (MQ below (hm_Qi D w s.heap.size (fun r w2 => r = iI (if ((0 ≤ x ∧ x < 8) ∧ (0 ≤ y ∧ y < 8) ∧ 0 ≤ z ∧ z < 8) then (if 0 ≤ n ∧ n < 4 then (ct (fun v => jb n (mS I y v) (mS I z v)) 0 4096 : Nat) else -3) else -2) ∧ w2 = if ((0 ≤ x ∧ x < 8) ∧ (0 ≤ y ∧ y < 8) ∧ 0 ≤ z ∧ z < 8) ∧ 0 ≤ n ∧ n < 4 then hm_up w ia (mE K (jI I n x y z)) else w)) args s 0 0 (hm_A w s.heap.size)) w 18 [(0, .ref (q)), (1, .int (iI (x))), (2, .int (iI (y))), (3, .int (iI (z))), (4, .int (iI (n)))] [.int (bI (decide (0 ≤ z ∧ z ≤ 7)))]
      refine hv_if_neB E 24 dX7_join_18 (by decide) rfl (fun c3 => ?_) (fun c3 => ?_)
      · have c3 := of_decide_eq_true c3
        refine hv_iload E dX7_join_24 4 rfl rfl ?_
        refine hv_iconst E dX7_join_26 rfl ?_
        refine hv_iconst E dX7_join_27 rfl ?_
        refine hv_callSI (na := 3) (As := [.int (iI (n)), .int (iI (0)), .int (iI (3))]) (st := []) E (c7_within l D K n 0 3 hn ⟨by omega, by omega⟩ ⟨by omega, by omega⟩) dX7_join_28 gL_X7_17 gS_X7_within gC_X7_within gZ_X7 (by decide +kernel) rfl ⟨Nat.le_of_ble_eq_true rfl, Nat.le_of_ble_eq_true rfl⟩ (Nat.le_of_ble_eq_true rfl) ⟨Nat.zero_le _, Nat.zero_le _⟩ rfl rfl (fun r w2 hp => ?_)
        rw [hp.1, hp.2]
        show hm_V p l e (hm_rm 2 0 0) s m args below meth c D (hm_A w s.heap.size) 8 0 0 (MQ below (hm_Qi D w s.heap.size (fun r w2 => r = iI (if ((0 ≤ x ∧ x < 8) ∧ (0 ≤ y ∧ y < 8) ∧ 0 ≤ z ∧ z < 8) then (if 0 ≤ n ∧ n < 4 then (ct (fun v => jb n (mS I y v) (mS I z v)) 0 4096 : Nat) else -3) else -2) ∧ w2 = if ((0 ≤ x ∧ x < 8) ∧ (0 ≤ y ∧ y < 8) ∧ 0 ≤ z ∧ z < 8) ∧ 0 ≤ n ∧ n < 4 then hm_up w ia (mE K (jI I n x y z)) else w)) args s 0 0 (hm_A w s.heap.size)) w 31 [(0, .ref (q)), (1, .int (iI (x))), (2, .int (iI (y))), (3, .int (iI (z))), (4, .int (iI (n)))] [.int (bI (decide (0 ≤ n ∧ n ≤ 3)))]
        refine hv_if_neB E 37 dX7_join_31 (by decide) rfl (fun c4 => ?_) (fun c4 => ?_)
        · have c4 := of_decide_eq_true c4
          refine hv_iconst E dX7_join_37 rfl ?_
          refine hv_istore (lv2 := [(5, .int (iI (0))), (0, .ref (q)), (1, .int (iI (x))), (2, .int (iI (y))), (3, .int (iI (z))), (4, .int (iI (n)))]) E dX7_join_38 (by decide) rfl rfl ?_
          have hX : ((0 ≤ x ∧ x < 8) ∧ (0 ≤ y ∧ y < 8) ∧ 0 ≤ z ∧ z < 8) := by omega
          have hNn : 0 ≤ n ∧ n < 4 := by omega
          refine hv_mem (show w = hm_up w ia (mE K (fun (i : Nat) => if 4096 * x ≤ (i : Int) ∧ (i : Int) < 4096 * x + 0 then jb n (mS I y (i - 4096 * x.toNat)) (mS I z (i - 4096 * x.toNat)) else I i)) from (by
                rw [show (fun (i : Nat) => if 4096 * x ≤ (i : Int) ∧ (i : Int) < 4096 * x + 0 then jb n (mS I y (i - 4096 * x.toNat)) (mS I z (i - 4096 * x.toNat)) else I i) = I from funext fun i => by rw [if_neg (by omega)]]
                exact (hm_uid hm.2).symm)) ?_
          have LP : ∀ (k : Nat) (j : Int), (4096 - j < (k : Int)) → (0 ≤ j) → (j ≤ 4096) → hm_V p l e (hm_rm 2 0 0) s m args below meth c D (hm_A w s.heap.size) 8 0 0 (MQ below (hm_Qi D w s.heap.size (fun r w2 => r = iI (if ((0 ≤ x ∧ x < 8) ∧ (0 ≤ y ∧ y < 8) ∧ 0 ≤ z ∧ z < 8) then (if 0 ≤ n ∧ n < 4 then (ct (fun v => jb n (mS I y v) (mS I z v)) 0 4096 : Nat) else -3) else -2) ∧ w2 = if ((0 ≤ x ∧ x < 8) ∧ (0 ≤ y ∧ y < 8) ∧ 0 ≤ z ∧ z < 8) ∧ 0 ≤ n ∧ n < 4 then hm_up w ia (mE K (jI I n x y z)) else w)) args s 0 0 (hm_A w s.heap.size)) (hm_up w ia (mE K (fun (i : Nat) => if 4096 * x ≤ (i : Int) ∧ (i : Int) < 4096 * x + j then jb n (mS I y (i - 4096 * x.toNat)) (mS I z (i - 4096 * x.toNat)) else I i))) 40 [(5, .int (iI (j))), (0, .ref (q)), (1, .int (iI (x))), (2, .int (iI (y))), (3, .int (iI (z))), (4, .int (iI (n)))] [] := by
            intro k
            induction k with
            | zero =>
              intro j hk g0 g1
              exact absurd hk (by omega)
            | succ k ih =>
              intro j hk g0 g1
              have hm2 := hm.up (fun (i : Nat) => if 4096 * x ≤ (i : Int) ∧ (i : Int) < 4096 * x + j then jb n (mS I y (i - 4096 * x.toNat)) (mS I z (i - 4096 * x.toNat)) else I i)
              have hJy : j < 4096 → mS (fun (i : Nat) => if 4096 * x ≤ (i : Int) ∧ (i : Int) < 4096 * x + j then jb n (mS I y (i - 4096 * x.toNat)) (mS I z (i - 4096 * x.toNat)) else I i) y j.toNat = mS I y j.toNat := fun _ => by show (if _ then _ else _) = _; rw [if_neg (by omega)]; rfl
              have hJz : j < 4096 → mS (fun (i : Nat) => if 4096 * x ≤ (i : Int) ∧ (i : Int) < 4096 * x + j then jb n (mS I y (i - 4096 * x.toNat)) (mS I z (i - 4096 * x.toNat)) else I i) z j.toNat = mS I z j.toNat := fun _ => by show (if _ then _ else _) = _; rw [if_neg (by omega)]; rfl
              refine hv_iload E dX7_join_40 0 rfl rfl ?_
              refine hv_sipush E dX7_join_42 (by decide +kernel) rfl ?_
              refine hv_icmp_ge E 168 dX7_join_45 (by decide) ⟨by omega, by omega⟩ ⟨by omega, by omega⟩ rfl (fun c5 => ?_) (fun c5 => ?_)
              · skip
                refine hv_aload_n E dX7_join_168 rfl 1 rfl rfl ?_
                refine hv_iload_n E dX7_join_169 rfl 2 rfl rfl ?_
                refine hv_iconst E dX7_join_170 rfl ?_
                refine hv_sipush E dX7_join_171 (by decide +kernel) rfl ?_
                have hm3 : mI K (hm_up w ia (mE K (fun (i : Nat) => if 4096 * x ≤ (i : Int) ∧ (i : Int) < 4096 * x + j then jb n (mS I y (i - 4096 * x.toNat)) (mS I z (i - 4096 * x.toNat)) else I i))) q ia fs (jI I n x y z) := by
                  have : (fun (i : Nat) => if 4096 * x ≤ (i : Int) ∧ (i : Int) < 4096 * x + j then jb n (mS I y (i - 4096 * x.toNat)) (mS I z (i - 4096 * x.toNat)) else I i) = jI I n x y z := funext fun i => by unfold jI; rw [show j = 4096 by omega]
                  rw [this]; exact hm.up _
                refine hv_callVI (na := 3) (As := [.int (iI (x)), .int (iI (0)), .int (iI (4096))]) (st := []) E (c7_many l D K x 0 4096 (by omega) (by omega) (by omega) (by omega) (by omega) hm3) dX7_join_174 hm2.1 (show vwCl[6]? = some (RX7, TX7, 7) from rfl) gL_X7_36 gV_X7_many gI_X7_many gC_X7_many gZ_X7 (by decide +kernel) rfl ⟨Nat.le_of_ble_eq_true rfl, Nat.le_of_ble_eq_true rfl⟩ (Nat.le_of_ble_eq_true rfl) ⟨Nat.zero_le _, Nat.zero_le _⟩ rfl rfl (fun r w2 hp => ?_)
                rw [hp.1, hp.2]
                show hm_V p l e (hm_rm 2 0 0) s m args below meth c D (hm_A w s.heap.size) 8 0 0 (MQ below (hm_Qi D w s.heap.size (fun r w2 => r = iI (if ((0 ≤ x ∧ x < 8) ∧ (0 ≤ y ∧ y < 8) ∧ 0 ≤ z ∧ z < 8) then (if 0 ≤ n ∧ n < 4 then (ct (fun v => jb n (mS I y v) (mS I z v)) 0 4096 : Nat) else -3) else -2) ∧ w2 = if ((0 ≤ x ∧ x < 8) ∧ (0 ≤ y ∧ y < 8) ∧ 0 ≤ z ∧ z < 8) ∧ 0 ≤ n ∧ n < 4 then hm_up w ia (mE K (jI I n x y z)) else w)) args s 0 0 (hm_A w s.heap.size)) (hm_up w ia (mE K (fun (i : Nat) => if 4096 * x ≤ (i : Int) ∧ (i : Int) < 4096 * x + j then jb n (mS I y (i - 4096 * x.toNat)) (mS I z (i - 4096 * x.toNat)) else I i))) 177 [(5, .int (iI (j))), (0, .ref (q)), (1, .int (iI (x))), (2, .int (iI (y))), (3, .int (iI (z))), (4, .int (iI (n)))] [.int (iI ((ct (mS (jI I n x y z) x) (0 : Int).toNat (4096 - 0 : Int).toNat : Nat)))]
                exact hv_iret E dX7_join_177 hr ⟨by
                          rw [if_pos hX, if_pos hNn]
                          congr 2
                          exact ct_congr (fun i hi => by rw [jI_at (by omega) (show (0 : Int).toNat + i < 4096 by simp at hi ⊢; omega)]; rfl), by
                          rw [if_pos ⟨hX, hNn⟩]
                          congr 2
                          exact funext fun i => by unfold jI; rw [show j = 4096 by omega]⟩
              · skip
                refine hv_aload_n E dX7_join_48 rfl 1 rfl rfl ?_
                refine hv_iload_n E dX7_join_49 rfl 3 rfl rfl ?_
                refine hv_iload E dX7_join_50 0 rfl rfl ?_
                refine hv_callVI (na := 2) (As := [.int (iI (y)), .int (iI (j))]) (st := []) E (c7_is l D K y j (by omega) (by omega) (by omega) (by omega) hm2) dX7_join_52 hm2.1 (show vwCl[6]? = some (RX7, TX7, 7) from rfl) gL_X7_28 gV_X7_is gI_X7_is gC_X7_is gZ_X7 (by decide +kernel) rfl ⟨Nat.le_of_ble_eq_true rfl, Nat.le_of_ble_eq_true rfl⟩ (Nat.le_of_ble_eq_true rfl) ⟨Nat.zero_le _, Nat.zero_le _⟩ rfl rfl (fun r w2 hp => ?_)
                rw [hp.1, hp.2]
                show hm_V p l e (hm_rm 2 0 0) s m args below meth c D (hm_A w s.heap.size) 8 0 0 (MQ below (hm_Qi D w s.heap.size (fun r w2 => r = iI (if ((0 ≤ x ∧ x < 8) ∧ (0 ≤ y ∧ y < 8) ∧ 0 ≤ z ∧ z < 8) then (if 0 ≤ n ∧ n < 4 then (ct (fun v => jb n (mS I y v) (mS I z v)) 0 4096 : Nat) else -3) else -2) ∧ w2 = if ((0 ≤ x ∧ x < 8) ∧ (0 ≤ y ∧ y < 8) ∧ 0 ≤ z ∧ z < 8) ∧ 0 ≤ n ∧ n < 4 then hm_up w ia (mE K (jI I n x y z)) else w)) args s 0 0 (hm_A w s.heap.size)) (hm_up w ia (mE K (fun (i : Nat) => if 4096 * x ≤ (i : Int) ∧ (i : Int) < 4096 * x + j then jb n (mS I y (i - 4096 * x.toNat)) (mS I z (i - 4096 * x.toNat)) else I i))) 55 [(5, .int (iI (j))), (0, .ref (q)), (1, .int (iI (x))), (2, .int (iI (y))), (3, .int (iI (z))), (4, .int (iI (n)))] [.int (bI (mS (fun (i : Nat) => if 4096 * x ≤ (i : Int) ∧ (i : Int) < 4096 * x + j then jb n (mS I y (i - 4096 * x.toNat)) (mS I z (i - 4096 * x.toNat)) else I i) y (j).toNat))]
                refine hv_topi (show bI (mS (fun (i : Nat) => if 4096 * x ≤ (i : Int) ∧ (i : Int) < 4096 * x + j then jb n (mS I y (i - 4096 * x.toNat)) (mS I z (i - 4096 * x.toNat)) else I i) y (j).toNat) = bI (mS I y j.toNat) from (by rw [hJy (by omega)])) ?_
                refine hv_istore (lv2 := [(6, .int (bI (mS I y j.toNat))), (5, .int (iI (j))), (0, .ref (q)), (1, .int (iI (x))), (2, .int (iI (y))), (3, .int (iI (z))), (4, .int (iI (n)))]) E dX7_join_55 (by decide) rfl rfl ?_
                refine hv_aload_n E dX7_join_57 rfl 2 rfl rfl ?_
                refine hv_iload_n E dX7_join_58 rfl 5 rfl rfl ?_
                refine hv_iload E dX7_join_59 1 rfl rfl ?_
                refine hv_callVI (na := 2) (As := [.int (iI (z)), .int (iI (j))]) (st := []) E (c7_is l D K z j (by omega) (by omega) (by omega) (by omega) hm2) dX7_join_61 hm2.1 (show vwCl[6]? = some (RX7, TX7, 7) from rfl) gL_X7_28 gV_X7_is gI_X7_is gC_X7_is gZ_X7 (by decide +kernel) rfl ⟨Nat.le_of_ble_eq_true rfl, Nat.le_of_ble_eq_true rfl⟩ (Nat.le_of_ble_eq_true rfl) ⟨Nat.zero_le _, Nat.zero_le _⟩ rfl rfl (fun r w2 hp => ?_)
                rw [hp.1, hp.2]
                show hm_V p l e (hm_rm 2 0 0) s m args below meth c D (hm_A w s.heap.size) 8 0 0 (MQ below (hm_Qi D w s.heap.size (fun r w2 => r = iI (if ((0 ≤ x ∧ x < 8) ∧ (0 ≤ y ∧ y < 8) ∧ 0 ≤ z ∧ z < 8) then (if 0 ≤ n ∧ n < 4 then (ct (fun v => jb n (mS I y v) (mS I z v)) 0 4096 : Nat) else -3) else -2) ∧ w2 = if ((0 ≤ x ∧ x < 8) ∧ (0 ≤ y ∧ y < 8) ∧ 0 ≤ z ∧ z < 8) ∧ 0 ≤ n ∧ n < 4 then hm_up w ia (mE K (jI I n x y z)) else w)) args s 0 0 (hm_A w s.heap.size)) (hm_up w ia (mE K (fun (i : Nat) => if 4096 * x ≤ (i : Int) ∧ (i : Int) < 4096 * x + j then jb n (mS I y (i - 4096 * x.toNat)) (mS I z (i - 4096 * x.toNat)) else I i))) 64 [(6, .int (bI (mS I y j.toNat))), (5, .int (iI (j))), (0, .ref (q)), (1, .int (iI (x))), (2, .int (iI (y))), (3, .int (iI (z))), (4, .int (iI (n)))] [.int (bI (mS (fun (i : Nat) => if 4096 * x ≤ (i : Int) ∧ (i : Int) < 4096 * x + j then jb n (mS I y (i - 4096 * x.toNat)) (mS I z (i - 4096 * x.toNat)) else I i) z (j).toNat))]
                refine hv_topi (show bI (mS (fun (i : Nat) => if 4096 * x ≤ (i : Int) ∧ (i : Int) < 4096 * x + j then jb n (mS I y (i - 4096 * x.toNat)) (mS I z (i - 4096 * x.toNat)) else I i) z (j).toNat) = bI (mS I z j.toNat) from (by rw [hJz (by omega)])) ?_
                refine hv_istore (lv2 := [(7, .int (bI (mS I z j.toNat))), (6, .int (bI (mS I y j.toNat))), (5, .int (iI (j))), (0, .ref (q)), (1, .int (iI (x))), (2, .int (iI (y))), (3, .int (iI (z))), (4, .int (iI (n)))]) E dX7_join_64 (by decide) rfl rfl ?_
                refine hv_aload_n E dX7_join_66 rfl 3 rfl rfl ?_
                refine hv_get (kf := 0) E dX7_join_67 (show vwCl[6]? = some (RX7, TX7, 7) from rfl) (by decide) gW_X7 gF_X7_8 rfl hm2.1 rfl rfl ?_
                refine hv_sipush E dX7_join_70 (by decide +kernel) rfl ?_
                refine hv_iload_n E dX7_join_73 rfl 4 rfl rfl ?_
                refine hv_imul E dX7_join_74 rfl ?_
                refine hv_iload E dX7_join_75 2 rfl rfl ?_
                refine hv_iadd E dX7_join_77 rfl ?_
                refine hv_iload E dX7_join_78 7 rfl rfl ?_
                refine hv_if_ne E 101 dX7_join_80 (by decide) ⟨by omega, by omega⟩ rfl (fun c6 => ?_) (fun c6 => ?_)
                · skip
                  refine hv_iload E dX7_join_101 7 rfl rfl ?_
                  refine hv_iconst E dX7_join_103 rfl ?_
                  refine hv_icmp_ne E 125 dX7_join_104 (by decide) ⟨by omega, by omega⟩ ⟨by omega, by omega⟩ rfl (fun c7 => ?_) (fun c7 => ?_)
                  · skip
                    refine hv_iload E dX7_join_125 7 rfl rfl ?_
                    refine hv_iconst E dX7_join_127 rfl ?_
                    refine hv_icmp_ne E 149 dX7_join_128 (by decide) ⟨by omega, by omega⟩ ⟨by omega, by omega⟩ rfl (fun c8 => ?_) (fun c8 => ?_)
                    · skip
                      refine hv_iload E dX7_join_149 1 rfl rfl ?_
                      refine hv_iload E dX7_join_151 0 rfl rfl ?_
                      refine hv_icmp_eqB E 160 dX7_join_153 (by decide) rfl (fun c9 => ?_) (fun c9 => ?_)
                      · skip
                        refine hv_iconst E dX7_join_160 rfl ?_
                        refine hv_topi (show iI (0) = bI (false) from rfl) ?_
                        have hcst : false = jb n (mS I y j.toNat) (mS I z j.toNat) := by simp [jb, c5, c6, c7, c8, c9]
                        refine hv_zast E dX7_join_161 hm2.2 (by omega) (by omega) (by decide) rfl ?_
                        refine hv_mem (show hm_up (hm_up w ia (mE K (fun (i : Nat) => if 4096 * x ≤ (i : Int) ∧ (i : Int) < 4096 * x + j then jb n (mS I y (i - 4096 * x.toNat)) (mS I z (i - 4096 * x.toNat)) else I i))) ia (mE K (va_up (fun (i : Nat) => if 4096 * x ≤ (i : Int) ∧ (i : Int) < 4096 * x + j then jb n (mS I y (i - 4096 * x.toNat)) (mS I z (i - 4096 * x.toNat)) else I i) (4096 * x + j).toNat false)) = hm_up w ia (mE K (fun (i : Nat) => if 4096 * x ≤ (i : Int) ∧ (i : Int) < 4096 * x + (j + 1) then jb n (mS I y (i - 4096 * x.toNat)) (mS I z (i - 4096 * x.toNat)) else I i)) from (by
                                  rw [hm_uu]
                                  congr 2
                                  funext i
                                  show (if i = _ then _ else _) = _
                                  by_cases hi : i = (4096 * x + j).toNat
                                  · rw [if_pos hi, if_pos (by omega), hcst, show i - 4096 * x.toNat = j.toNat by omega]
                                  · rw [if_neg hi]
                                    show (if _ then _ else _) = _
                                    by_cases hi2 : 4096 * x ≤ (i : Int) ∧ (i : Int) < 4096 * x + j
                                    · rw [if_pos hi2, if_pos (by omega)]
                                    · rw [if_neg hi2, if_neg (by omega)])) ?_
                        refine hv_iinc (lv2 := [(5, .int (iI (j + 1))), (7, .int (bI (mS I z j.toNat))), (6, .int (bI (mS I y j.toNat))), (0, .ref (q)), (1, .int (iI (x))), (2, .int (iI (y))), (3, .int (iI (z))), (4, .int (iI (n)))]) E dX7_join_162 2 rfl rfl (by decide) rfl rfl ?_
                        refine hv_goto E 40 dX7_join_165 (by decide) ?_
                        refine hv_sub (lv2 := [(5, .int (iI (j + 1))), (0, .ref (q)), (1, .int (iI (x))), (2, .int (iI (y))), (3, .int (iI (z))), (4, .int (iI (n)))]) [0, 3, 4, 5, 6, 7] rfl ?_
                        exact ih (j + 1) (by omega) (by omega) (by omega)
                      · skip
                        refine hv_iconst E dX7_join_156 rfl ?_
                        refine hv_goto E 161 dX7_join_157 (by decide) ?_
                        refine hv_topi (show iI (1) = bI (true) from rfl) ?_
                        have hcst : true = jb n (mS I y j.toNat) (mS I z j.toNat) := by simp [jb, c5, c6, c7, c8, c9]
                        refine hv_zast E dX7_join_161 hm2.2 (by omega) (by omega) (by decide) rfl ?_
                        refine hv_mem (show hm_up (hm_up w ia (mE K (fun (i : Nat) => if 4096 * x ≤ (i : Int) ∧ (i : Int) < 4096 * x + j then jb n (mS I y (i - 4096 * x.toNat)) (mS I z (i - 4096 * x.toNat)) else I i))) ia (mE K (va_up (fun (i : Nat) => if 4096 * x ≤ (i : Int) ∧ (i : Int) < 4096 * x + j then jb n (mS I y (i - 4096 * x.toNat)) (mS I z (i - 4096 * x.toNat)) else I i) (4096 * x + j).toNat true)) = hm_up w ia (mE K (fun (i : Nat) => if 4096 * x ≤ (i : Int) ∧ (i : Int) < 4096 * x + (j + 1) then jb n (mS I y (i - 4096 * x.toNat)) (mS I z (i - 4096 * x.toNat)) else I i)) from (by
                                  rw [hm_uu]
                                  congr 2
                                  funext i
                                  show (if i = _ then _ else _) = _
                                  by_cases hi : i = (4096 * x + j).toNat
                                  · rw [if_pos hi, if_pos (by omega), hcst, show i - 4096 * x.toNat = j.toNat by omega]
                                  · rw [if_neg hi]
                                    show (if _ then _ else _) = _
                                    by_cases hi2 : 4096 * x ≤ (i : Int) ∧ (i : Int) < 4096 * x + j
                                    · rw [if_pos hi2, if_pos (by omega)]
                                    · rw [if_neg hi2, if_neg (by omega)])) ?_
                        refine hv_iinc (lv2 := [(5, .int (iI (j + 1))), (7, .int (bI (mS I z j.toNat))), (6, .int (bI (mS I y j.toNat))), (0, .ref (q)), (1, .int (iI (x))), (2, .int (iI (y))), (3, .int (iI (z))), (4, .int (iI (n)))]) E dX7_join_162 2 rfl rfl (by decide) rfl rfl ?_
                        refine hv_goto E 40 dX7_join_165 (by decide) ?_
                        refine hv_sub (lv2 := [(5, .int (iI (j + 1))), (0, .ref (q)), (1, .int (iI (x))), (2, .int (iI (y))), (3, .int (iI (z))), (4, .int (iI (n)))]) [0, 3, 4, 5, 6, 7] rfl ?_
                        exact ih (j + 1) (by omega) (by omega) (by omega)
                    · skip
                      refine hv_iload E dX7_join_131 1 rfl rfl ?_
                      refine hv_if_eqB E 145 dX7_join_133 (by decide) rfl (fun c10 => ?_) (fun c10 => ?_)
                      · refine hv_iconst E dX7_join_145 rfl ?_
                        refine hv_goto E 161 dX7_join_146 (by decide) ?_
                        refine hv_topi (show iI (0) = bI (false) from rfl) ?_
                        have hcst : false = jb n (mS I y j.toNat) (mS I z j.toNat) := by simp [jb, c5, c6, c7, c8, c10]
                        refine hv_zast E dX7_join_161 hm2.2 (by omega) (by omega) (by decide) rfl ?_
                        refine hv_mem (show hm_up (hm_up w ia (mE K (fun (i : Nat) => if 4096 * x ≤ (i : Int) ∧ (i : Int) < 4096 * x + j then jb n (mS I y (i - 4096 * x.toNat)) (mS I z (i - 4096 * x.toNat)) else I i))) ia (mE K (va_up (fun (i : Nat) => if 4096 * x ≤ (i : Int) ∧ (i : Int) < 4096 * x + j then jb n (mS I y (i - 4096 * x.toNat)) (mS I z (i - 4096 * x.toNat)) else I i) (4096 * x + j).toNat false)) = hm_up w ia (mE K (fun (i : Nat) => if 4096 * x ≤ (i : Int) ∧ (i : Int) < 4096 * x + (j + 1) then jb n (mS I y (i - 4096 * x.toNat)) (mS I z (i - 4096 * x.toNat)) else I i)) from (by
                                  rw [hm_uu]
                                  congr 2
                                  funext i
                                  show (if i = _ then _ else _) = _
                                  by_cases hi : i = (4096 * x + j).toNat
                                  · rw [if_pos hi, if_pos (by omega), hcst, show i - 4096 * x.toNat = j.toNat by omega]
                                  · rw [if_neg hi]
                                    show (if _ then _ else _) = _
                                    by_cases hi2 : 4096 * x ≤ (i : Int) ∧ (i : Int) < 4096 * x + j
                                    · rw [if_pos hi2, if_pos (by omega)]
                                    · rw [if_neg hi2, if_neg (by omega)])) ?_
                        refine hv_iinc (lv2 := [(5, .int (iI (j + 1))), (7, .int (bI (mS I z j.toNat))), (6, .int (bI (mS I y j.toNat))), (0, .ref (q)), (1, .int (iI (x))), (2, .int (iI (y))), (3, .int (iI (z))), (4, .int (iI (n)))]) E dX7_join_162 2 rfl rfl (by decide) rfl rfl ?_
                        refine hv_goto E 40 dX7_join_165 (by decide) ?_
                        refine hv_sub (lv2 := [(5, .int (iI (j + 1))), (0, .ref (q)), (1, .int (iI (x))), (2, .int (iI (y))), (3, .int (iI (z))), (4, .int (iI (n)))]) [0, 3, 4, 5, 6, 7] rfl ?_
                        exact ih (j + 1) (by omega) (by omega) (by omega)
                      · refine hv_iload E dX7_join_136 0 rfl rfl ?_
                        refine hv_if_neB E 145 dX7_join_138 (by decide) rfl (fun c11 => ?_) (fun c11 => ?_)
                        · refine hv_iconst E dX7_join_145 rfl ?_
                          refine hv_goto E 161 dX7_join_146 (by decide) ?_
                          refine hv_topi (show iI (0) = bI (false) from rfl) ?_
                          have hcst : false = jb n (mS I y j.toNat) (mS I z j.toNat) := by simp [jb, c5, c6, c7, c8, c10, c11]
                          refine hv_zast E dX7_join_161 hm2.2 (by omega) (by omega) (by decide) rfl ?_
                          refine hv_mem (show hm_up (hm_up w ia (mE K (fun (i : Nat) => if 4096 * x ≤ (i : Int) ∧ (i : Int) < 4096 * x + j then jb n (mS I y (i - 4096 * x.toNat)) (mS I z (i - 4096 * x.toNat)) else I i))) ia (mE K (va_up (fun (i : Nat) => if 4096 * x ≤ (i : Int) ∧ (i : Int) < 4096 * x + j then jb n (mS I y (i - 4096 * x.toNat)) (mS I z (i - 4096 * x.toNat)) else I i) (4096 * x + j).toNat false)) = hm_up w ia (mE K (fun (i : Nat) => if 4096 * x ≤ (i : Int) ∧ (i : Int) < 4096 * x + (j + 1) then jb n (mS I y (i - 4096 * x.toNat)) (mS I z (i - 4096 * x.toNat)) else I i)) from (by
                                    rw [hm_uu]
                                    congr 2
                                    funext i
                                    show (if i = _ then _ else _) = _
                                    by_cases hi : i = (4096 * x + j).toNat
                                    · rw [if_pos hi, if_pos (by omega), hcst, show i - 4096 * x.toNat = j.toNat by omega]
                                    · rw [if_neg hi]
                                      show (if _ then _ else _) = _
                                      by_cases hi2 : 4096 * x ≤ (i : Int) ∧ (i : Int) < 4096 * x + j
                                      · rw [if_pos hi2, if_pos (by omega)]
                                      · rw [if_neg hi2, if_neg (by omega)])) ?_
                          refine hv_iinc (lv2 := [(5, .int (iI (j + 1))), (7, .int (bI (mS I z j.toNat))), (6, .int (bI (mS I y j.toNat))), (0, .ref (q)), (1, .int (iI (x))), (2, .int (iI (y))), (3, .int (iI (z))), (4, .int (iI (n)))]) E dX7_join_162 2 rfl rfl (by decide) rfl rfl ?_
                          refine hv_goto E 40 dX7_join_165 (by decide) ?_
                          refine hv_sub (lv2 := [(5, .int (iI (j + 1))), (0, .ref (q)), (1, .int (iI (x))), (2, .int (iI (y))), (3, .int (iI (z))), (4, .int (iI (n)))]) [0, 3, 4, 5, 6, 7] rfl ?_
                          exact ih (j + 1) (by omega) (by omega) (by omega)
                        · refine hv_iconst E dX7_join_141 rfl ?_
                          refine hv_goto E 161 dX7_join_142 (by decide) ?_
                          refine hv_topi (show iI (1) = bI (true) from rfl) ?_
                          have hcst : true = jb n (mS I y j.toNat) (mS I z j.toNat) := by simp [jb, c5, c6, c7, c8, c10, c11]
                          refine hv_zast E dX7_join_161 hm2.2 (by omega) (by omega) (by decide) rfl ?_
                          refine hv_mem (show hm_up (hm_up w ia (mE K (fun (i : Nat) => if 4096 * x ≤ (i : Int) ∧ (i : Int) < 4096 * x + j then jb n (mS I y (i - 4096 * x.toNat)) (mS I z (i - 4096 * x.toNat)) else I i))) ia (mE K (va_up (fun (i : Nat) => if 4096 * x ≤ (i : Int) ∧ (i : Int) < 4096 * x + j then jb n (mS I y (i - 4096 * x.toNat)) (mS I z (i - 4096 * x.toNat)) else I i) (4096 * x + j).toNat true)) = hm_up w ia (mE K (fun (i : Nat) => if 4096 * x ≤ (i : Int) ∧ (i : Int) < 4096 * x + (j + 1) then jb n (mS I y (i - 4096 * x.toNat)) (mS I z (i - 4096 * x.toNat)) else I i)) from (by
                                    rw [hm_uu]
                                    congr 2
                                    funext i
                                    show (if i = _ then _ else _) = _
                                    by_cases hi : i = (4096 * x + j).toNat
                                    · rw [if_pos hi, if_pos (by omega), hcst, show i - 4096 * x.toNat = j.toNat by omega]
                                    · rw [if_neg hi]
                                      show (if _ then _ else _) = _
                                      by_cases hi2 : 4096 * x ≤ (i : Int) ∧ (i : Int) < 4096 * x + j
                                      · rw [if_pos hi2, if_pos (by omega)]
                                      · rw [if_neg hi2, if_neg (by omega)])) ?_
                          refine hv_iinc (lv2 := [(5, .int (iI (j + 1))), (7, .int (bI (mS I z j.toNat))), (6, .int (bI (mS I y j.toNat))), (0, .ref (q)), (1, .int (iI (x))), (2, .int (iI (y))), (3, .int (iI (z))), (4, .int (iI (n)))]) E dX7_join_162 2 rfl rfl (by decide) rfl rfl ?_
                          refine hv_goto E 40 dX7_join_165 (by decide) ?_
                          refine hv_sub (lv2 := [(5, .int (iI (j + 1))), (0, .ref (q)), (1, .int (iI (x))), (2, .int (iI (y))), (3, .int (iI (z))), (4, .int (iI (n)))]) [0, 3, 4, 5, 6, 7] rfl ?_
                          exact ih (j + 1) (by omega) (by omega) (by omega)
                  · skip
                    refine hv_iload E dX7_join_107 1 rfl rfl ?_
                    refine hv_if_neB E 117 dX7_join_109 (by decide) rfl (fun c12 => ?_) (fun c12 => ?_)
                    · refine hv_iconst E dX7_join_117 rfl ?_
                      refine hv_goto E 161 dX7_join_118 (by decide) ?_
                      refine hv_topi (show iI (1) = bI (true) from rfl) ?_
                      have hcst : true = jb n (mS I y j.toNat) (mS I z j.toNat) := by simp [jb, c5, c6, c7, c12]
                      refine hv_zast E dX7_join_161 hm2.2 (by omega) (by omega) (by decide) rfl ?_
                      refine hv_mem (show hm_up (hm_up w ia (mE K (fun (i : Nat) => if 4096 * x ≤ (i : Int) ∧ (i : Int) < 4096 * x + j then jb n (mS I y (i - 4096 * x.toNat)) (mS I z (i - 4096 * x.toNat)) else I i))) ia (mE K (va_up (fun (i : Nat) => if 4096 * x ≤ (i : Int) ∧ (i : Int) < 4096 * x + j then jb n (mS I y (i - 4096 * x.toNat)) (mS I z (i - 4096 * x.toNat)) else I i) (4096 * x + j).toNat true)) = hm_up w ia (mE K (fun (i : Nat) => if 4096 * x ≤ (i : Int) ∧ (i : Int) < 4096 * x + (j + 1) then jb n (mS I y (i - 4096 * x.toNat)) (mS I z (i - 4096 * x.toNat)) else I i)) from (by
                                rw [hm_uu]
                                congr 2
                                funext i
                                show (if i = _ then _ else _) = _
                                by_cases hi : i = (4096 * x + j).toNat
                                · rw [if_pos hi, if_pos (by omega), hcst, show i - 4096 * x.toNat = j.toNat by omega]
                                · rw [if_neg hi]
                                  show (if _ then _ else _) = _
                                  by_cases hi2 : 4096 * x ≤ (i : Int) ∧ (i : Int) < 4096 * x + j
                                  · rw [if_pos hi2, if_pos (by omega)]
                                  · rw [if_neg hi2, if_neg (by omega)])) ?_
                      refine hv_iinc (lv2 := [(5, .int (iI (j + 1))), (7, .int (bI (mS I z j.toNat))), (6, .int (bI (mS I y j.toNat))), (0, .ref (q)), (1, .int (iI (x))), (2, .int (iI (y))), (3, .int (iI (z))), (4, .int (iI (n)))]) E dX7_join_162 2 rfl rfl (by decide) rfl rfl ?_
                      refine hv_goto E 40 dX7_join_165 (by decide) ?_
                      refine hv_sub (lv2 := [(5, .int (iI (j + 1))), (0, .ref (q)), (1, .int (iI (x))), (2, .int (iI (y))), (3, .int (iI (z))), (4, .int (iI (n)))]) [0, 3, 4, 5, 6, 7] rfl ?_
                      exact ih (j + 1) (by omega) (by omega) (by omega)
                    · refine hv_iload E dX7_join_112 0 rfl rfl ?_
                      refine hv_if_eqB E 121 dX7_join_114 (by decide) rfl (fun c13 => ?_) (fun c13 => ?_)
                      · refine hv_iconst E dX7_join_121 rfl ?_
                        refine hv_goto E 161 dX7_join_122 (by decide) ?_
                        refine hv_topi (show iI (0) = bI (false) from rfl) ?_
                        have hcst : false = jb n (mS I y j.toNat) (mS I z j.toNat) := by simp [jb, c5, c6, c7, c12, c13]
                        refine hv_zast E dX7_join_161 hm2.2 (by omega) (by omega) (by decide) rfl ?_
                        refine hv_mem (show hm_up (hm_up w ia (mE K (fun (i : Nat) => if 4096 * x ≤ (i : Int) ∧ (i : Int) < 4096 * x + j then jb n (mS I y (i - 4096 * x.toNat)) (mS I z (i - 4096 * x.toNat)) else I i))) ia (mE K (va_up (fun (i : Nat) => if 4096 * x ≤ (i : Int) ∧ (i : Int) < 4096 * x + j then jb n (mS I y (i - 4096 * x.toNat)) (mS I z (i - 4096 * x.toNat)) else I i) (4096 * x + j).toNat false)) = hm_up w ia (mE K (fun (i : Nat) => if 4096 * x ≤ (i : Int) ∧ (i : Int) < 4096 * x + (j + 1) then jb n (mS I y (i - 4096 * x.toNat)) (mS I z (i - 4096 * x.toNat)) else I i)) from (by
                                  rw [hm_uu]
                                  congr 2
                                  funext i
                                  show (if i = _ then _ else _) = _
                                  by_cases hi : i = (4096 * x + j).toNat
                                  · rw [if_pos hi, if_pos (by omega), hcst, show i - 4096 * x.toNat = j.toNat by omega]
                                  · rw [if_neg hi]
                                    show (if _ then _ else _) = _
                                    by_cases hi2 : 4096 * x ≤ (i : Int) ∧ (i : Int) < 4096 * x + j
                                    · rw [if_pos hi2, if_pos (by omega)]
                                    · rw [if_neg hi2, if_neg (by omega)])) ?_
                        refine hv_iinc (lv2 := [(5, .int (iI (j + 1))), (7, .int (bI (mS I z j.toNat))), (6, .int (bI (mS I y j.toNat))), (0, .ref (q)), (1, .int (iI (x))), (2, .int (iI (y))), (3, .int (iI (z))), (4, .int (iI (n)))]) E dX7_join_162 2 rfl rfl (by decide) rfl rfl ?_
                        refine hv_goto E 40 dX7_join_165 (by decide) ?_
                        refine hv_sub (lv2 := [(5, .int (iI (j + 1))), (0, .ref (q)), (1, .int (iI (x))), (2, .int (iI (y))), (3, .int (iI (z))), (4, .int (iI (n)))]) [0, 3, 4, 5, 6, 7] rfl ?_
                        exact ih (j + 1) (by omega) (by omega) (by omega)
                      · refine hv_iconst E dX7_join_117 rfl ?_
                        refine hv_goto E 161 dX7_join_118 (by decide) ?_
                        refine hv_topi (show iI (1) = bI (true) from rfl) ?_
                        have hcst : true = jb n (mS I y j.toNat) (mS I z j.toNat) := by simp [jb, c5, c6, c7, c12, c13]
                        refine hv_zast E dX7_join_161 hm2.2 (by omega) (by omega) (by decide) rfl ?_
                        refine hv_mem (show hm_up (hm_up w ia (mE K (fun (i : Nat) => if 4096 * x ≤ (i : Int) ∧ (i : Int) < 4096 * x + j then jb n (mS I y (i - 4096 * x.toNat)) (mS I z (i - 4096 * x.toNat)) else I i))) ia (mE K (va_up (fun (i : Nat) => if 4096 * x ≤ (i : Int) ∧ (i : Int) < 4096 * x + j then jb n (mS I y (i - 4096 * x.toNat)) (mS I z (i - 4096 * x.toNat)) else I i) (4096 * x + j).toNat true)) = hm_up w ia (mE K (fun (i : Nat) => if 4096 * x ≤ (i : Int) ∧ (i : Int) < 4096 * x + (j + 1) then jb n (mS I y (i - 4096 * x.toNat)) (mS I z (i - 4096 * x.toNat)) else I i)) from (by
                                  rw [hm_uu]
                                  congr 2
                                  funext i
                                  show (if i = _ then _ else _) = _
                                  by_cases hi : i = (4096 * x + j).toNat
                                  · rw [if_pos hi, if_pos (by omega), hcst, show i - 4096 * x.toNat = j.toNat by omega]
                                  · rw [if_neg hi]
                                    show (if _ then _ else _) = _
                                    by_cases hi2 : 4096 * x ≤ (i : Int) ∧ (i : Int) < 4096 * x + j
                                    · rw [if_pos hi2, if_pos (by omega)]
                                    · rw [if_neg hi2, if_neg (by omega)])) ?_
                        refine hv_iinc (lv2 := [(5, .int (iI (j + 1))), (7, .int (bI (mS I z j.toNat))), (6, .int (bI (mS I y j.toNat))), (0, .ref (q)), (1, .int (iI (x))), (2, .int (iI (y))), (3, .int (iI (z))), (4, .int (iI (n)))]) E dX7_join_162 2 rfl rfl (by decide) rfl rfl ?_
                        refine hv_goto E 40 dX7_join_165 (by decide) ?_
                        refine hv_sub (lv2 := [(5, .int (iI (j + 1))), (0, .ref (q)), (1, .int (iI (x))), (2, .int (iI (y))), (3, .int (iI (z))), (4, .int (iI (n)))]) [0, 3, 4, 5, 6, 7] rfl ?_
                        exact ih (j + 1) (by omega) (by omega) (by omega)
                · skip
                  refine hv_iload E dX7_join_83 1 rfl rfl ?_
                  refine hv_if_eqB E 97 dX7_join_85 (by decide) rfl (fun c14 => ?_) (fun c14 => ?_)
                  · refine hv_iconst E dX7_join_97 rfl ?_
                    refine hv_goto E 161 dX7_join_98 (by decide) ?_
                    refine hv_topi (show iI (0) = bI (false) from rfl) ?_
                    have hcst : false = jb n (mS I y j.toNat) (mS I z j.toNat) := by simp [jb, c5, c6, c14]
                    refine hv_zast E dX7_join_161 hm2.2 (by omega) (by omega) (by decide) rfl ?_
                    refine hv_mem (show hm_up (hm_up w ia (mE K (fun (i : Nat) => if 4096 * x ≤ (i : Int) ∧ (i : Int) < 4096 * x + j then jb n (mS I y (i - 4096 * x.toNat)) (mS I z (i - 4096 * x.toNat)) else I i))) ia (mE K (va_up (fun (i : Nat) => if 4096 * x ≤ (i : Int) ∧ (i : Int) < 4096 * x + j then jb n (mS I y (i - 4096 * x.toNat)) (mS I z (i - 4096 * x.toNat)) else I i) (4096 * x + j).toNat false)) = hm_up w ia (mE K (fun (i : Nat) => if 4096 * x ≤ (i : Int) ∧ (i : Int) < 4096 * x + (j + 1) then jb n (mS I y (i - 4096 * x.toNat)) (mS I z (i - 4096 * x.toNat)) else I i)) from (by
                              rw [hm_uu]
                              congr 2
                              funext i
                              show (if i = _ then _ else _) = _
                              by_cases hi : i = (4096 * x + j).toNat
                              · rw [if_pos hi, if_pos (by omega), hcst, show i - 4096 * x.toNat = j.toNat by omega]
                              · rw [if_neg hi]
                                show (if _ then _ else _) = _
                                by_cases hi2 : 4096 * x ≤ (i : Int) ∧ (i : Int) < 4096 * x + j
                                · rw [if_pos hi2, if_pos (by omega)]
                                · rw [if_neg hi2, if_neg (by omega)])) ?_
                    refine hv_iinc (lv2 := [(5, .int (iI (j + 1))), (7, .int (bI (mS I z j.toNat))), (6, .int (bI (mS I y j.toNat))), (0, .ref (q)), (1, .int (iI (x))), (2, .int (iI (y))), (3, .int (iI (z))), (4, .int (iI (n)))]) E dX7_join_162 2 rfl rfl (by decide) rfl rfl ?_
                    refine hv_goto E 40 dX7_join_165 (by decide) ?_
                    refine hv_sub (lv2 := [(5, .int (iI (j + 1))), (0, .ref (q)), (1, .int (iI (x))), (2, .int (iI (y))), (3, .int (iI (z))), (4, .int (iI (n)))]) [0, 3, 4, 5, 6, 7] rfl ?_
                    exact ih (j + 1) (by omega) (by omega) (by omega)
                  · refine hv_iload E dX7_join_88 0 rfl rfl ?_
                    refine hv_if_eqB E 97 dX7_join_90 (by decide) rfl (fun c15 => ?_) (fun c15 => ?_)
                    · refine hv_iconst E dX7_join_97 rfl ?_
                      refine hv_goto E 161 dX7_join_98 (by decide) ?_
                      refine hv_topi (show iI (0) = bI (false) from rfl) ?_
                      have hcst : false = jb n (mS I y j.toNat) (mS I z j.toNat) := by simp [jb, c5, c6, c14, c15]
                      refine hv_zast E dX7_join_161 hm2.2 (by omega) (by omega) (by decide) rfl ?_
                      refine hv_mem (show hm_up (hm_up w ia (mE K (fun (i : Nat) => if 4096 * x ≤ (i : Int) ∧ (i : Int) < 4096 * x + j then jb n (mS I y (i - 4096 * x.toNat)) (mS I z (i - 4096 * x.toNat)) else I i))) ia (mE K (va_up (fun (i : Nat) => if 4096 * x ≤ (i : Int) ∧ (i : Int) < 4096 * x + j then jb n (mS I y (i - 4096 * x.toNat)) (mS I z (i - 4096 * x.toNat)) else I i) (4096 * x + j).toNat false)) = hm_up w ia (mE K (fun (i : Nat) => if 4096 * x ≤ (i : Int) ∧ (i : Int) < 4096 * x + (j + 1) then jb n (mS I y (i - 4096 * x.toNat)) (mS I z (i - 4096 * x.toNat)) else I i)) from (by
                                rw [hm_uu]
                                congr 2
                                funext i
                                show (if i = _ then _ else _) = _
                                by_cases hi : i = (4096 * x + j).toNat
                                · rw [if_pos hi, if_pos (by omega), hcst, show i - 4096 * x.toNat = j.toNat by omega]
                                · rw [if_neg hi]
                                  show (if _ then _ else _) = _
                                  by_cases hi2 : 4096 * x ≤ (i : Int) ∧ (i : Int) < 4096 * x + j
                                  · rw [if_pos hi2, if_pos (by omega)]
                                  · rw [if_neg hi2, if_neg (by omega)])) ?_
                      refine hv_iinc (lv2 := [(5, .int (iI (j + 1))), (7, .int (bI (mS I z j.toNat))), (6, .int (bI (mS I y j.toNat))), (0, .ref (q)), (1, .int (iI (x))), (2, .int (iI (y))), (3, .int (iI (z))), (4, .int (iI (n)))]) E dX7_join_162 2 rfl rfl (by decide) rfl rfl ?_
                      refine hv_goto E 40 dX7_join_165 (by decide) ?_
                      refine hv_sub (lv2 := [(5, .int (iI (j + 1))), (0, .ref (q)), (1, .int (iI (x))), (2, .int (iI (y))), (3, .int (iI (z))), (4, .int (iI (n)))]) [0, 3, 4, 5, 6, 7] rfl ?_
                      exact ih (j + 1) (by omega) (by omega) (by omega)
                    · refine hv_iconst E dX7_join_93 rfl ?_
                      refine hv_goto E 161 dX7_join_94 (by decide) ?_
                      refine hv_topi (show iI (1) = bI (true) from rfl) ?_
                      have hcst : true = jb n (mS I y j.toNat) (mS I z j.toNat) := by simp [jb, c5, c6, c14, c15]
                      refine hv_zast E dX7_join_161 hm2.2 (by omega) (by omega) (by decide) rfl ?_
                      refine hv_mem (show hm_up (hm_up w ia (mE K (fun (i : Nat) => if 4096 * x ≤ (i : Int) ∧ (i : Int) < 4096 * x + j then jb n (mS I y (i - 4096 * x.toNat)) (mS I z (i - 4096 * x.toNat)) else I i))) ia (mE K (va_up (fun (i : Nat) => if 4096 * x ≤ (i : Int) ∧ (i : Int) < 4096 * x + j then jb n (mS I y (i - 4096 * x.toNat)) (mS I z (i - 4096 * x.toNat)) else I i) (4096 * x + j).toNat true)) = hm_up w ia (mE K (fun (i : Nat) => if 4096 * x ≤ (i : Int) ∧ (i : Int) < 4096 * x + (j + 1) then jb n (mS I y (i - 4096 * x.toNat)) (mS I z (i - 4096 * x.toNat)) else I i)) from (by
                                rw [hm_uu]
                                congr 2
                                funext i
                                show (if i = _ then _ else _) = _
                                by_cases hi : i = (4096 * x + j).toNat
                                · rw [if_pos hi, if_pos (by omega), hcst, show i - 4096 * x.toNat = j.toNat by omega]
                                · rw [if_neg hi]
                                  show (if _ then _ else _) = _
                                  by_cases hi2 : 4096 * x ≤ (i : Int) ∧ (i : Int) < 4096 * x + j
                                  · rw [if_pos hi2, if_pos (by omega)]
                                  · rw [if_neg hi2, if_neg (by omega)])) ?_
                      refine hv_iinc (lv2 := [(5, .int (iI (j + 1))), (7, .int (bI (mS I z j.toNat))), (6, .int (bI (mS I y j.toNat))), (0, .ref (q)), (1, .int (iI (x))), (2, .int (iI (y))), (3, .int (iI (z))), (4, .int (iI (n)))]) E dX7_join_162 2 rfl rfl (by decide) rfl rfl ?_
                      refine hv_goto E 40 dX7_join_165 (by decide) ?_
                      refine hv_sub (lv2 := [(5, .int (iI (j + 1))), (0, .ref (q)), (1, .int (iI (x))), (2, .int (iI (y))), (3, .int (iI (z))), (4, .int (iI (n)))]) [0, 3, 4, 5, 6, 7] rfl ?_
                      exact ih (j + 1) (by omega) (by omega) (by omega)
          refine hv_sub (lv2 := [(5, .int (iI (0))), (0, .ref (q)), (1, .int (iI (x))), (2, .int (iI (y))), (3, .int (iI (z))), (4, .int (iI (n)))]) [0, 1, 2, 3, 4, 5] rfl ?_
          exact LP 4097 0 (by omega) (by omega) (by omega)
        · have c4 := of_decide_eq_false c4
          refine hv_bipush E dX7_join_34 (by decide +kernel) rfl ?_
          exact hv_iret E dX7_join_36 hr ⟨(by (repeat (first | rw [if_pos (by omega)] | rw [if_neg (by omega)])) <;> first | done | rfl), (by (repeat (first | rw [if_pos (by omega)] | rw [if_neg (by omega)])) <;> first | done | rfl)⟩
      · have c3 := of_decide_eq_false c3
        refine hv_bipush E dX7_join_21 (by decide +kernel) rfl ?_
        exact hv_iret E dX7_join_23 hr ⟨(by (repeat (first | rw [if_pos (by omega)] | rw [if_neg (by omega)])) <;> first | done | rfl), (by (repeat (first | rw [if_pos (by omega)] | rw [if_neg (by omega)])) <;> first | done | rfl)⟩
