/-- a run of the piece from a on begins at its i-th number -/
def bg (S : Nat → Bool) (a i : Nat) : Bool := S (a + i) && (decide (i = 0) || !S (a + i - 1))
/-- numbers and runs of piece h; its form (-1: none) and its bits -/
def pN (S : Nat → Bool) (h : Int) : Int := (ct S (256 * h.toNat) 256 : Nat)
def pR (S : Nat → Bool) (h : Int) : Int := (ct (bg S (256 * h.toNat)) 0 256 : Nat)
def pfm (n r : Int) : Int := if n = 0 then -1 else if 8 * n ≤ 256 ∧ 8 * n ≤ 16 * r then 0 else if 256 ≤ 16 * r then 1 else 2
def pF (S : Nat → Bool) (h : Int) : Int := pfm (pN S h) (pR S h)
def pB (S : Nat → Bool) (h : Int) : Int := if pF S h = 0 then 8 * pN S h else if pF S h = 1 then 256 else if pF S h = 2 then 16 * pR S h else 0
theorem pN_b (S : Nat → Bool) (h : Int) : 0 ≤ pN S h ∧ pN S h ≤ 256 := by have := ct_le S (256 * h.toNat) 256; unfold pN; omega
theorem pR_b (S : Nat → Bool) (h : Int) : 0 ≤ pR S h ∧ pR S h ≤ 256 := by have := ct_le (bg S (256 * h.toNat)) 0 256; unfold pR; omega
theorem pF_b (S : Nat → Bool) (h : Int) : -1 ≤ pF S h ∧ pF S h ≤ 2 := by
  unfold pF pfm; split
  · omega
  · split
    · omega
    · split <;> omega
theorem ushr31 (x : Int32) : (x.toUInt32 >>> ((iI 31).toUInt32 &&& Int32.toUInt32 31)).toInt32 = bI (bt x 31) := by
  apply b_ext
  intro i hi
  have h2 : ∀ i, i < 32 → (bt (bI true) i = decide (i = 0) ∧ bt (bI false) i = false) := by decide +kernel
  have h1 := b_ushr 31 (by omega) x i
  rw [show (31 : Int) = ((31 : Nat) : Int) from rfl, iI_nI, h1]
  by_cases h0 : i = 0
  · subst h0
    cases bt x 31
    · rw [(h2 0 (by omega)).2]
    · rw [(h2 0 (by omega)).1]; rfl
  · rw [b_big (by omega)]
    cases bt x 31
    · rw [(h2 i hi).2]
    · rw [(h2 i hi).1, decide_eq_false h0]
theorem bt_firsts (x : Int32) (c : Bool) {i : Nat} (hi : i < 32) : bt (x &&& (((x <<< (iI 1 &&& 31)) ||| bI c) ^^^ iI (-1))) i = (bt x i && !(if i = 0 then c else bt x (i - 1))) := by
  have h2 : ∀ i, i < 32 → (bt (bI true) i = decide (i = 0) ∧ bt (bI false) i = false) := by decide +kernel
  have h3 := b_shl 1 (by omega) x hi
  rw [b_and, b_xor, b_or, bt_m1 hi, Bool.xor_true, show (1 : Int) = ((1 : Nat) : Int) from rfl, iI_nI, h3]
  congr 2
  by_cases h0 : i = 0
  · subst h0
    cases c
    · rw [(h2 0 (by omega)).2]; rfl
    · rw [(h2 0 (by omega)).1]; rfl
  · rw [if_neg h0, decide_eq_true (by omega), Bool.true_and]
    cases c
    · rw [(h2 i hi).2, Bool.or_false]
    · rw [(h2 i hi).1, decide_eq_false h0, Bool.or_false]
theorem runs_word (f : Nat → Int32) (a m j : Nat) (c : Bool) (h : a + 32 * m = 32 * j) (hc : c = (decide (0 < m) && mem f (32 * j - 1))) : ct (bg (mem f) a) (0 + 32 * m) 32 = ct (bt (f j &&& (((f j <<< (iI 1 &&& 31)) ||| bI c) ^^^ iI (-1)))) 0 32 := ct_congr (fun i hi => by
  rw [Nat.zero_add, Nat.zero_add, bt_firsts _ _ hi]
  unfold bg
  rw [show a + (32 * m + i) = 32 * j + i by omega, mem_at f j i hi]
  congr 1
  by_cases h0 : i = 0
  · subst h0
    rw [if_pos rfl, hc]
    by_cases h4 : m = 0
    · subst h4; rfl
    · rw [decide_eq_false (show ¬ 32 * m + 0 = 0 by omega), decide_eq_true (show 0 < m by omega), Bool.false_or, Bool.true_and]; rfl
  · rw [if_neg h0, decide_eq_false (show ¬ 32 * m + i = 0 by omega), Bool.false_or, show 32 * j + i - 1 = 32 * j + (i - 1) by omega, mem_at f j (i - 1) (by omega)])
set_option maxHeartbeats 4000000 in
set_option maxRecDepth 100000 in
theorem c2_pieceAmount (l : Launch) (D : va_G) (K : Nat → ClassId) {w : hm_M} {q wd : Nat} {f : Nat → Int32} (h : Int) (h0 : 0 ≤ h) (h1 : h < 16) (hn : nAt K w q wd f)  : hm_Ci l D K yX2_pieceAmount cX2_pieceAmount 4 .int 1 [.ref (q), .int (iI (h))] w 0 0 (fun r w2 => r = iI (pN (mem f) h) ∧ w2 = w) := by
  refine hm_enterI (by decide) (Nat.le_of_ble_eq_true rfl) ?_
  intro p e s m args below meth c E hr hnm
  show hm_V p l e (hm_rm 1 0 0) s m args below meth c D (hm_A w s.heap.size) 4 0 0 (MQ below (hm_Qi D w s.heap.size (fun r w2 => r = iI (pN (mem f) h) ∧ w2 = w)) args s 0 0 (hm_A w s.heap.size)) w 0 [(0, .ref (q)), (1, .int (iI (h)))] []
  refine hv_iload_n E dX2_pieceAmount_0 rfl 1 rfl rfl ?_
  refine hv_if_lt E 10 dX2_pieceAmount_1 (by decide) ⟨by omega, by omega⟩ rfl (fun c1 => ?_) (fun c1 => ?_)
  · exact absurd c1 (by omega)
  · refine hv_iload_n E dX2_pieceAmount_4 rfl 1 rfl rfl ?_
    refine hv_bipush E dX2_pieceAmount_5 (by decide +kernel) rfl ?_
    refine hv_icmp_lt E 12 dX2_pieceAmount_7 (by decide) ⟨by omega, by omega⟩ ⟨by omega, by omega⟩ rfl (fun c2 => ?_) (fun c2 => ?_)
    · refine hv_iconst E dX2_pieceAmount_12 rfl ?_
      refine hv_istore_n (lv2 := [(2, .int (iI (0))), (0, .ref (q)), (1, .int (iI (h)))]) E dX2_pieceAmount_13 rfl (by decide) rfl rfl ?_
      refine hv_iload_n E dX2_pieceAmount_14 rfl 2 rfl rfl ?_
      refine hv_bipush E dX2_pieceAmount_15 (by decide +kernel) rfl ?_
      refine hv_imul E dX2_pieceAmount_17 rfl ?_
      refine hv_istore_n (lv2 := [(3, .int (iI (h * 8))), (2, .int (iI (0))), (0, .ref (q)), (1, .int (iI (h)))]) E dX2_pieceAmount_18 rfl (by decide) rfl rfl ?_
      have LP : ∀ (k : Nat) (j : Int) (sm : Int), (h * 8 + 8 - j < (k : Int)) → (h * 8 ≤ j) → (j ≤ h * 8 + 8) → (sm = (ct (mem f) (256 * h.toNat) (32 * (j - h * 8).toNat) : Nat)) → hm_V p l e (hm_rm 1 0 0) s m args below meth c D (hm_A w s.heap.size) 4 0 0 (MQ below (hm_Qi D w s.heap.size (fun r w2 => r = iI (pN (mem f) h) ∧ w2 = w)) args s 0 0 (hm_A w s.heap.size)) w 19 [(3, .int (iI (j))), (2, .int (iI (sm))), (0, .ref (q)), (1, .int (iI (h)))] [] := by
        intro k
        induction k with
        | zero =>
          intro j sm hk g0 g1 hs
          exact absurd hk (by omega)
        | succ k ih =>
          intro j sm hk g0 g1 hs
          refine hv_iload_n E dX2_pieceAmount_19 rfl 0 rfl rfl ?_
          refine hv_iload_n E dX2_pieceAmount_20 rfl 3 rfl rfl ?_
          refine hv_iconst E dX2_pieceAmount_21 rfl ?_
          refine hv_iadd E dX2_pieceAmount_22 rfl ?_
          refine hv_bipush E dX2_pieceAmount_23 (by decide +kernel) rfl ?_
          refine hv_imul E dX2_pieceAmount_25 rfl ?_
          refine hv_icmp_ge E 47 dX2_pieceAmount_26 (by decide) ⟨by omega, by omega⟩ ⟨by omega, by omega⟩ rfl (fun h3 => ?_) (fun h3 => ?_)
          · refine hv_iload_n E dX2_pieceAmount_47 rfl 1 rfl rfl ?_
            exact hv_iret E dX2_pieceAmount_48 hr ⟨by unfold pN; rw [hs, show 32 * (j - h * 8).toNat = 256 by omega], rfl⟩
          · refine hv_iload_n E dX2_pieceAmount_29 rfl 1 rfl rfl ?_
            refine hv_aload_n E dX2_pieceAmount_30 rfl 2 rfl rfl ?_
            refine hv_get (kf := 0) E dX2_pieceAmount_31 (show vwCl[1]? = some (RX2, TX2, 1) from rfl) (by decide) gW_X2 gF_X2_9 rfl hn.1 rfl rfl ?_
            refine hv_iload_n E dX2_pieceAmount_34 rfl 0 rfl rfl ?_
            refine hv_iald E dX2_pieceAmount_35 hn.2 (by omega) (by omega) (by decide) rfl ?_
            refine hv_callSI (na := 1) (As := [.int (f j.toNat)]) (st := [.int (iI (sm))]) E (cJ_bitCount l D K (f j.toNat)) dX2_pieceAmount_36 gL_X2_26 gS_J6_bitCount_0f7a4 gC_J6_bitCount_0f7a4 gZ_J6 (by decide +kernel) rfl ⟨Nat.le_of_ble_eq_true rfl, Nat.le_of_ble_eq_true rfl⟩ (Nat.le_of_ble_eq_true rfl) ⟨Nat.zero_le _, Nat.zero_le _⟩ rfl rfl (fun r w2 hp => ?_)
            rw [hp.1, hp.2]
            show hm_V p l e (hm_rm 1 0 0) s m args below meth c D (hm_A w s.heap.size) 4 0 0 (MQ below (hm_Qi D w s.heap.size (fun r w2 => r = iI (pN (mem f) h) ∧ w2 = w)) args s 0 0 (hm_A w s.heap.size)) w 39 [(3, .int (iI (j))), (2, .int (iI (sm))), (0, .ref (q)), (1, .int (iI (h)))] [.int (iI ((ct (bt (f j.toNat)) 0 32 : Nat))), .int (iI (sm))]
            refine hv_iadd E dX2_pieceAmount_39 rfl ?_
            refine hv_istore_n (lv2 := [(2, .int (iI (sm + ((ct (bt (f j.toNat)) 0 32 : Nat))))), (3, .int (iI (j))), (0, .ref (q)), (1, .int (iI (h)))]) E dX2_pieceAmount_40 rfl (by decide) rfl rfl ?_
            refine hv_iinc (lv2 := [(3, .int (iI (j + 1))), (2, .int (iI (sm + ((ct (bt (f j.toNat)) 0 32 : Nat))))), (0, .ref (q)), (1, .int (iI (h)))]) E dX2_pieceAmount_41 1 rfl rfl (by decide) rfl rfl ?_
            refine hv_goto E 19 dX2_pieceAmount_44 (by decide) ?_
            refine hv_sub (lv2 := [(3, .int (iI (j + 1))), (2, .int (iI (sm + ((ct (bt (f j.toNat)) 0 32 : Nat))))), (0, .ref (q)), (1, .int (iI (h)))]) [0, 1, 2, 3] rfl ?_
            exact ih (j + 1) _ (by omega) (by omega) (by omega) (by
                  rw [show 32 * (j + 1 - h * 8).toNat = 32 * (j - h * 8).toNat + 32 by omega, ct_add, show 256 * h.toNat + 32 * (j - h * 8).toNat = 32 * j.toNat by omega, ct_word f _ _ (by omega), hs]; omega)
      refine hv_sub (lv2 := [(3, .int (iI (h * 8))), (2, .int (iI (0))), (0, .ref (q)), (1, .int (iI (h)))]) [0, 1, 2, 3] rfl ?_
      exact LP 9 (h * 8) 0 (by omega) (by omega) (by omega) (by rw [show (h * 8 - h * 8).toNat = 0 by omega]; rfl)
    · exact absurd c2 (by omega)
set_option maxHeartbeats 4000000 in
set_option maxRecDepth 100000 in
theorem c2_pieceRuns (l : Launch) (D : va_G) (K : Nat → ClassId) {w : hm_M} {q wd : Nat} {f : Nat → Int32} (h : Int) (h0 : 0 ≤ h) (h1 : h < 16) (hn : nAt K w q wd f)  : hm_Ci l D K yX2_pieceRuns cX2_pieceRuns 6 .int 1 [.ref (q), .int (iI (h))] w 0 0 (fun r w2 => r = iI (pR (mem f) h) ∧ w2 = w) := by
  refine hm_enterI (by decide) (Nat.le_of_ble_eq_true rfl) ?_
  intro p e s m args below meth c E hr hnm
  show hm_V p l e (hm_rm 1 0 0) s m args below meth c D (hm_A w s.heap.size) 6 0 0 (MQ below (hm_Qi D w s.heap.size (fun r w2 => r = iI (pR (mem f) h) ∧ w2 = w)) args s 0 0 (hm_A w s.heap.size)) w 0 [(0, .ref (q)), (1, .int (iI (h)))] []
  refine hv_iload_n E dX2_pieceRuns_0 rfl 1 rfl rfl ?_
  refine hv_if_lt E 10 dX2_pieceRuns_1 (by decide) ⟨by omega, by omega⟩ rfl (fun c1 => ?_) (fun c1 => ?_)
  · exact absurd c1 (by omega)
  · refine hv_iload_n E dX2_pieceRuns_4 rfl 1 rfl rfl ?_
    refine hv_bipush E dX2_pieceRuns_5 (by decide +kernel) rfl ?_
    refine hv_icmp_lt E 12 dX2_pieceRuns_7 (by decide) ⟨by omega, by omega⟩ ⟨by omega, by omega⟩ rfl (fun c2 => ?_) (fun c2 => ?_)
    · refine hv_iconst E dX2_pieceRuns_12 rfl ?_
      refine hv_istore_n (lv2 := [(2, .int (iI (0))), (0, .ref (q)), (1, .int (iI (h)))]) E dX2_pieceRuns_13 rfl (by decide) rfl rfl ?_
      refine hv_iconst E dX2_pieceRuns_14 rfl ?_
      refine hv_topi (show iI (0) = bI (false) from rfl) ?_
      refine hv_istore_n (lv2 := [(3, .int (bI (false))), (2, .int (iI (0))), (0, .ref (q)), (1, .int (iI (h)))]) E dX2_pieceRuns_15 rfl (by decide) rfl rfl ?_
      refine hv_iload_n E dX2_pieceRuns_16 rfl 3 rfl rfl ?_
      refine hv_bipush E dX2_pieceRuns_17 (by decide +kernel) rfl ?_
      refine hv_imul E dX2_pieceRuns_19 rfl ?_
      refine hv_istore (lv2 := [(4, .int (iI (h * 8))), (3, .int (bI (false))), (2, .int (iI (0))), (0, .ref (q)), (1, .int (iI (h)))]) E dX2_pieceRuns_20 (by decide) rfl rfl ?_
      have LP : ∀ (k : Nat) (j : Int) (sm : Int) (cy : Bool), (h * 8 + 8 - j < (k : Int)) → (h * 8 ≤ j) → (j ≤ h * 8 + 8) → (sm = (ct (bg (mem f) (256 * h.toNat)) 0 (32 * (j - h * 8).toNat) : Nat)) → (cy = (decide (0 < (j - h * 8).toNat) && mem f (32 * j.toNat - 1))) → hm_V p l e (hm_rm 1 0 0) s m args below meth c D (hm_A w s.heap.size) 6 0 0 (MQ below (hm_Qi D w s.heap.size (fun r w2 => r = iI (pR (mem f) h) ∧ w2 = w)) args s 0 0 (hm_A w s.heap.size)) w 22 [(4, .int (iI (j))), (3, .int (bI (cy))), (2, .int (iI (sm))), (0, .ref (q)), (1, .int (iI (h)))] [] := by
        intro k
        induction k with
        | zero =>
          intro j sm cy hk g0 g1 hs hc
          exact absurd hk (by omega)
        | succ k ih =>
          intro j sm cy hk g0 g1 hs hc
          refine hv_iload E dX2_pieceRuns_22 0 rfl rfl ?_
          refine hv_iload_n E dX2_pieceRuns_24 rfl 4 rfl rfl ?_
          refine hv_iconst E dX2_pieceRuns_25 rfl ?_
          refine hv_iadd E dX2_pieceRuns_26 rfl ?_
          refine hv_bipush E dX2_pieceRuns_27 (by decide +kernel) rfl ?_
          refine hv_imul E dX2_pieceRuns_29 rfl ?_
          refine hv_icmp_ge E 81 dX2_pieceRuns_30 (by decide) ⟨by omega, by omega⟩ ⟨by omega, by omega⟩ rfl (fun h3 => ?_) (fun h3 => ?_)
          · refine hv_iload_n E dX2_pieceRuns_81 rfl 2 rfl rfl ?_
            exact hv_iret E dX2_pieceRuns_82 hr ⟨by unfold pR; rw [hs, show 32 * (j - h * 8).toNat = 256 by omega], rfl⟩
          · refine hv_aload_n E dX2_pieceRuns_33 rfl 3 rfl rfl ?_
            refine hv_get (kf := 0) E dX2_pieceRuns_34 (show vwCl[1]? = some (RX2, TX2, 1) from rfl) (by decide) gW_X2 gF_X2_9 rfl hn.1 rfl rfl ?_
            refine hv_iload E dX2_pieceRuns_37 0 rfl rfl ?_
            refine hv_iald E dX2_pieceRuns_39 hn.2 (by omega) (by omega) (by decide) rfl ?_
            refine hv_aload_n E dX2_pieceRuns_40 rfl 3 rfl rfl ?_
            refine hv_get (kf := 0) E dX2_pieceRuns_41 (show vwCl[1]? = some (RX2, TX2, 1) from rfl) (by decide) gW_X2 gF_X2_9 rfl hn.1 rfl rfl ?_
            refine hv_iload E dX2_pieceRuns_44 0 rfl rfl ?_
            refine hv_iald E dX2_pieceRuns_46 hn.2 (by omega) (by omega) (by decide) rfl ?_
            refine hv_iconst E dX2_pieceRuns_47 rfl ?_
            refine hv_ishlR E dX2_pieceRuns_48 rfl rfl ?_
            refine hv_iload_n E dX2_pieceRuns_49 rfl 1 rfl rfl ?_
            refine hv_iorR E dX2_pieceRuns_50 rfl ?_
            refine hv_iconst E dX2_pieceRuns_51 rfl ?_
            refine hv_ixorR E dX2_pieceRuns_52 rfl ?_
            refine hv_iandR E dX2_pieceRuns_53 rfl ?_
            refine hv_istore (lv2 := [(5, .int ((f j.toNat) &&& ((((f j.toNat) <<< ((iI (1)) &&& 31)) ||| (bI (cy))) ^^^ (iI ((-1)))))), (4, .int (iI (j))), (3, .int (bI (cy))), (2, .int (iI (sm))), (0, .ref (q)), (1, .int (iI (h)))]) E dX2_pieceRuns_54 (by decide) rfl rfl ?_
            refine hv_iload_n E dX2_pieceRuns_56 rfl 3 rfl rfl ?_
            refine hv_iload E dX2_pieceRuns_57 0 rfl rfl ?_
            refine hv_callSI (na := 1) (As := [.int ((f j.toNat) &&& ((((f j.toNat) <<< ((iI (1)) &&& 31)) ||| (bI (cy))) ^^^ (iI ((-1)))))]) (st := [.int (iI (sm))]) E (cJ_bitCount l D K ((f j.toNat) &&& ((((f j.toNat) <<< ((iI (1)) &&& 31)) ||| (bI (cy))) ^^^ (iI ((-1)))))) dX2_pieceRuns_59 gL_X2_26 gS_J6_bitCount_0f7a4 gC_J6_bitCount_0f7a4 gZ_J6 (by decide +kernel) rfl ⟨Nat.le_of_ble_eq_true rfl, Nat.le_of_ble_eq_true rfl⟩ (Nat.le_of_ble_eq_true rfl) ⟨Nat.zero_le _, Nat.zero_le _⟩ rfl rfl (fun r w2 hp => ?_)
            rw [hp.1, hp.2]
            show hm_V p l e (hm_rm 1 0 0) s m args below meth c D (hm_A w s.heap.size) 6 0 0 (MQ below (hm_Qi D w s.heap.size (fun r w2 => r = iI (pR (mem f) h) ∧ w2 = w)) args s 0 0 (hm_A w s.heap.size)) w 62 [(5, .int ((f j.toNat) &&& ((((f j.toNat) <<< ((iI (1)) &&& 31)) ||| (bI (cy))) ^^^ (iI ((-1)))))), (4, .int (iI (j))), (3, .int (bI (cy))), (2, .int (iI (sm))), (0, .ref (q)), (1, .int (iI (h)))] [.int (iI ((ct (bt ((f j.toNat) &&& ((((f j.toNat) <<< ((iI (1)) &&& 31)) ||| (bI (cy))) ^^^ (iI ((-1)))))) 0 32 : Nat))), .int (iI (sm))]
            refine hv_iadd E dX2_pieceRuns_62 rfl ?_
            refine hv_istore_n (lv2 := [(2, .int (iI (sm + ((ct (bt ((f j.toNat) &&& ((((f j.toNat) <<< ((iI (1)) &&& 31)) ||| (bI (cy))) ^^^ (iI ((-1)))))) 0 32 : Nat))))), (5, .int ((f j.toNat) &&& ((((f j.toNat) <<< ((iI (1)) &&& 31)) ||| (bI (cy))) ^^^ (iI ((-1)))))), (4, .int (iI (j))), (3, .int (bI (cy))), (0, .ref (q)), (1, .int (iI (h)))]) E dX2_pieceRuns_63 rfl (by decide) rfl rfl ?_
            refine hv_aload_n E dX2_pieceRuns_64 rfl 4 rfl rfl ?_
            refine hv_get (kf := 0) E dX2_pieceRuns_65 (show vwCl[1]? = some (RX2, TX2, 1) from rfl) (by decide) gW_X2 gF_X2_9 rfl hn.1 rfl rfl ?_
            refine hv_iload E dX2_pieceRuns_68 2 rfl rfl ?_
            refine hv_iald E dX2_pieceRuns_70 hn.2 (by omega) (by omega) (by decide) rfl ?_
            refine hv_bipush E dX2_pieceRuns_71 (by decide +kernel) rfl ?_
            refine hv_iushrR E dX2_pieceRuns_73 rfl rfl ?_
            refine hv_topi (show ((f j.toNat).toUInt32 >>> ((iI (31)).toUInt32 &&& Int32.toUInt32 31)).toInt32 = bI (bt (f j.toNat) 31) from ushr31 _) ?_
            refine hv_istore_n (lv2 := [(3, .int (bI (bt (f j.toNat) 31))), (2, .int (iI (sm + ((ct (bt ((f j.toNat) &&& ((((f j.toNat) <<< ((iI (1)) &&& 31)) ||| (bI (cy))) ^^^ (iI ((-1)))))) 0 32 : Nat))))), (5, .int ((f j.toNat) &&& ((((f j.toNat) <<< ((iI (1)) &&& 31)) ||| (bI (cy))) ^^^ (iI ((-1)))))), (4, .int (iI (j))), (0, .ref (q)), (1, .int (iI (h)))]) E dX2_pieceRuns_74 rfl (by decide) rfl rfl ?_
            refine hv_iinc (lv2 := [(4, .int (iI (j + 1))), (3, .int (bI (bt (f j.toNat) 31))), (2, .int (iI (sm + ((ct (bt ((f j.toNat) &&& ((((f j.toNat) <<< ((iI (1)) &&& 31)) ||| (bI (cy))) ^^^ (iI ((-1)))))) 0 32 : Nat))))), (5, .int ((f j.toNat) &&& ((((f j.toNat) <<< ((iI (1)) &&& 31)) ||| (bI (cy))) ^^^ (iI ((-1)))))), (0, .ref (q)), (1, .int (iI (h)))]) E dX2_pieceRuns_75 3 rfl rfl (by decide) rfl rfl ?_
            refine hv_goto E 22 dX2_pieceRuns_78 (by decide) ?_
            refine hv_sub (lv2 := [(4, .int (iI (j + 1))), (3, .int (bI (bt (f j.toNat) 31))), (2, .int (iI (sm + ((ct (bt ((f j.toNat) &&& ((((f j.toNat) <<< ((iI (1)) &&& 31)) ||| (bI (cy))) ^^^ (iI ((-1)))))) 0 32 : Nat))))), (0, .ref (q)), (1, .int (iI (h)))]) [0, 1, 2, 4, 5] rfl ?_
            exact ih (j + 1) _ _ (by omega) (by omega) (by omega) (by
                  rw [show 32 * (j + 1 - h * 8).toNat = 32 * (j - h * 8).toNat + 32 by omega, ct_add, runs_word f (256 * h.toNat) (j - h * 8).toNat j.toNat cy (by omega) hc, hs]
                  omega) (by
                  rw [decide_eq_true (by omega), Bool.true_and, show 32 * (j + 1).toNat - 1 = 32 * j.toNat + 31 by omega, mem_at f _ _ (by omega)])
      refine hv_sub (lv2 := [(4, .int (iI (h * 8))), (3, .int (bI (false))), (2, .int (iI (0))), (0, .ref (q)), (1, .int (iI (h)))]) [0, 1, 2, 3, 4] rfl ?_
      exact LP 9 (h * 8) 0 false (by omega) (by omega) (by omega) (by rw [show (h * 8 - h * 8).toNat = 0 by omega]; rfl) (by rw [show (h * 8 - h * 8).toNat = 0 by omega]; rfl)
    · exact absurd c2 (by omega)
set_option maxHeartbeats 4000000 in
set_option maxRecDepth 100000 in
theorem c2_pieceForm (l : Launch) (D : va_G) (K : Nat → ClassId) {w : hm_M} {q wd : Nat} {f : Nat → Int32} (h : Int) (h0 : 0 ≤ h) (h1 : h < 16) (hn : nAt K w q wd f)  : hm_Ci l D K yX2_pieceForm cX2_pieceForm 5 .int 2 [.ref (q), .int (iI (h))] w 0 0 (fun r w2 => r = iI (pF (mem f) h) ∧ w2 = w) := by
  refine hm_enterI (by decide) (Nat.le_of_ble_eq_true rfl) ?_
  intro p e s m args below meth c E hr hnm
  show hm_V p l e (hm_rm 2 0 0) s m args below meth c D (hm_A w s.heap.size) 5 0 0 (MQ below (hm_Qi D w s.heap.size (fun r w2 => r = iI (pF (mem f) h) ∧ w2 = w)) args s 0 0 (hm_A w s.heap.size)) w 0 [(0, .ref (q)), (1, .int (iI (h)))] []
  have hN := pN_b (mem f) h
  have hR := pR_b (mem f) h
  refine hv_aload_n E dX2_pieceForm_0 rfl 0 rfl rfl ?_
  refine hv_iload_n E dX2_pieceForm_1 rfl 1 rfl rfl ?_
  refine hv_callVI (na := 1) (As := [.int (iI (h))]) (st := []) E (c2_pieceAmount l D K h h0 h1 hn) dX2_pieceForm_2 hn.1 (show vwCl[1]? = some (RX2, TX2, 1) from rfl) gL_X2_46 gV_X2_pieceAmount gI_X2_pieceAmount gC_X2_pieceAmount gZ_X2 (by decide +kernel) rfl ⟨Nat.le_of_ble_eq_true rfl, Nat.le_of_ble_eq_true rfl⟩ (Nat.le_of_ble_eq_true rfl) ⟨Nat.zero_le _, Nat.zero_le _⟩ rfl rfl (fun r w2 hp => ?_)
  rw [hp.1, hp.2]
  show hm_V p l e (hm_rm 2 0 0) s m args below meth c D (hm_A w s.heap.size) 5 0 0 (MQ below (hm_Qi D w s.heap.size (fun r w2 => r = iI (pF (mem f) h) ∧ w2 = w)) args s 0 0 (hm_A w s.heap.size)) w 5 [(0, .ref (q)), (1, .int (iI (h)))] [.int (iI (pN (mem f) h))]
  refine hv_istore_n (lv2 := [(2, .int (iI (pN (mem f) h))), (0, .ref (q)), (1, .int (iI (h)))]) E dX2_pieceForm_5 rfl (by decide) rfl rfl ?_
  refine hv_iload_n E dX2_pieceForm_6 rfl 0 rfl rfl ?_
  refine hv_if_ne E 12 dX2_pieceForm_7 (by decide) ⟨by omega, by omega⟩ rfl (fun a1 => ?_) (fun a1 => ?_)
  · refine hv_bipush E dX2_pieceForm_12 (by decide +kernel) rfl ?_
    refine hv_iload_n E dX2_pieceForm_14 rfl 0 rfl rfl ?_
    refine hv_imul E dX2_pieceForm_15 rfl ?_
    refine hv_istore_n (lv2 := [(3, .int (iI (8 * (pN (mem f) h)))), (2, .int (iI (pN (mem f) h))), (0, .ref (q)), (1, .int (iI (h)))]) E dX2_pieceForm_16 rfl (by decide) rfl rfl ?_
    refine hv_bipush E dX2_pieceForm_17 (by decide +kernel) rfl ?_
    refine hv_aload_n E dX2_pieceForm_19 rfl 2 rfl rfl ?_
    refine hv_iload_n E dX2_pieceForm_20 rfl 3 rfl rfl ?_
    refine hv_callVI (na := 1) (As := [.int (iI (h))]) (st := [.int (iI (16))]) E (c2_pieceRuns l D K h h0 h1 hn) dX2_pieceForm_21 hn.1 (show vwCl[1]? = some (RX2, TX2, 1) from rfl) gL_X2_49 gV_X2_pieceRuns gI_X2_pieceRuns gC_X2_pieceRuns gZ_X2 (by decide +kernel) rfl ⟨Nat.le_of_ble_eq_true rfl, Nat.le_of_ble_eq_true rfl⟩ (Nat.le_of_ble_eq_true rfl) ⟨Nat.zero_le _, Nat.zero_le _⟩ rfl rfl (fun r w2 hp => ?_)
    rw [hp.1, hp.2]
    show hm_V p l e (hm_rm 2 0 0) s m args below meth c D (hm_A w s.heap.size) 5 0 0 (MQ below (hm_Qi D w s.heap.size (fun r w2 => r = iI (pF (mem f) h) ∧ w2 = w)) args s 0 0 (hm_A w s.heap.size)) w 24 [(3, .int (iI (8 * (pN (mem f) h)))), (2, .int (iI (pN (mem f) h))), (0, .ref (q)), (1, .int (iI (h)))] [.int (iI (pR (mem f) h)), .int (iI (16))]
    refine hv_imul E dX2_pieceForm_24 rfl ?_
    refine hv_istore (lv2 := [(4, .int (iI (16 * (pR (mem f) h)))), (3, .int (iI (8 * (pN (mem f) h)))), (2, .int (iI (pN (mem f) h))), (0, .ref (q)), (1, .int (iI (h)))]) E dX2_pieceForm_25 (by decide) rfl rfl ?_
    refine hv_iload_n E dX2_pieceForm_27 rfl 1 rfl rfl ?_
    refine hv_sipush E dX2_pieceForm_28 (by decide +kernel) rfl ?_
    refine hv_icmp_gt E 42 dX2_pieceForm_31 (by decide) ⟨by omega, by omega⟩ ⟨by omega, by omega⟩ rfl (fun a2 => ?_) (fun a2 => ?_)
    · refine hv_sipush E dX2_pieceForm_42 (by decide +kernel) rfl ?_
      refine hv_iload E dX2_pieceForm_45 0 rfl rfl ?_
      refine hv_icmp_gt E 54 dX2_pieceForm_47 (by decide) ⟨by omega, by omega⟩ ⟨by omega, by omega⟩ rfl (fun a4 => ?_) (fun a4 => ?_)
      · refine hv_iconst E dX2_pieceForm_54 rfl ?_
        exact hv_iret E dX2_pieceForm_55 hr ⟨by unfold pF pfm; rw [if_neg a1, if_neg (by omega), if_neg (by omega)], rfl⟩
      · refine hv_iconst E dX2_pieceForm_50 rfl ?_
        refine hv_goto E 55 dX2_pieceForm_51 (by decide) ?_
        exact hv_iret E dX2_pieceForm_55 hr ⟨by unfold pF pfm; rw [if_neg a1, if_neg (by omega), if_pos (by omega)], rfl⟩
    · refine hv_iload_n E dX2_pieceForm_34 rfl 1 rfl rfl ?_
      refine hv_iload E dX2_pieceForm_35 0 rfl rfl ?_
      refine hv_icmp_gt E 42 dX2_pieceForm_37 (by decide) ⟨by omega, by omega⟩ ⟨by omega, by omega⟩ rfl (fun a3 => ?_) (fun a3 => ?_)
      · refine hv_sipush E dX2_pieceForm_42 (by decide +kernel) rfl ?_
        refine hv_iload E dX2_pieceForm_45 0 rfl rfl ?_
        refine hv_icmp_gt E 54 dX2_pieceForm_47 (by decide) ⟨by omega, by omega⟩ ⟨by omega, by omega⟩ rfl (fun a4 => ?_) (fun a4 => ?_)
        · refine hv_iconst E dX2_pieceForm_54 rfl ?_
          exact hv_iret E dX2_pieceForm_55 hr ⟨by unfold pF pfm; rw [if_neg a1, if_neg (by omega), if_neg (by omega)], rfl⟩
        · refine hv_iconst E dX2_pieceForm_50 rfl ?_
          refine hv_goto E 55 dX2_pieceForm_51 (by decide) ?_
          exact hv_iret E dX2_pieceForm_55 hr ⟨by unfold pF pfm; rw [if_neg a1, if_neg (by omega), if_pos (by omega)], rfl⟩
      · refine hv_iconst E dX2_pieceForm_40 rfl ?_
        exact hv_iret E dX2_pieceForm_41 hr ⟨by unfold pF pfm; rw [if_neg a1, if_pos (by omega)], rfl⟩
  · refine hv_iconst E dX2_pieceForm_10 rfl ?_
    exact hv_iret E dX2_pieceForm_11 hr ⟨by unfold pF pfm; rw [if_pos a1], rfl⟩
set_option maxHeartbeats 4000000 in
set_option maxRecDepth 100000 in
theorem c2_pieceBits (l : Launch) (D : va_G) (K : Nat → ClassId) {w : hm_M} {q wd : Nat} {f : Nat → Int32} (h : Int) (h0 : 0 ≤ h) (h1 : h < 16) (hn : nAt K w q wd f)  : hm_Ci l D K yX2_pieceBits cX2_pieceBits 2 .int 3 [.ref (q), .int (iI (h))] w 0 0 (fun r w2 => r = iI (pB (mem f) h) ∧ w2 = w) := by
  refine hm_enterI (by decide) (Nat.le_of_ble_eq_true rfl) ?_
  intro p e s m args below meth c E hr hnm
  show hm_V p l e (hm_rm 3 0 0) s m args below meth c D (hm_A w s.heap.size) 2 0 0 (MQ below (hm_Qi D w s.heap.size (fun r w2 => r = iI (pB (mem f) h) ∧ w2 = w)) args s 0 0 (hm_A w s.heap.size)) w 0 [(0, .ref (q)), (1, .int (iI (h)))] []
  have hF := pF_b (mem f) h
  refine hv_aload_n E dX2_pieceBits_0 rfl 0 rfl rfl ?_
  refine hv_iload_n E dX2_pieceBits_1 rfl 1 rfl rfl ?_
  refine hv_callVI (na := 1) (As := [.int (iI (h))]) (st := []) E (c2_pieceForm l D K h h0 h1 hn) dX2_pieceBits_2 hn.1 (show vwCl[1]? = some (RX2, TX2, 1) from rfl) gL_X2_52 gV_X2_pieceForm gI_X2_pieceForm gC_X2_pieceForm gZ_X2 (by decide +kernel) rfl ⟨Nat.le_of_ble_eq_true rfl, Nat.le_of_ble_eq_true rfl⟩ (Nat.le_of_ble_eq_true rfl) ⟨Nat.zero_le _, Nat.zero_le _⟩ rfl rfl (fun r w2 hp => ?_)
  rw [hp.1, hp.2]
  show hm_V p l e (hm_rm 3 0 0) s m args below meth c D (hm_A w s.heap.size) 2 0 0 (MQ below (hm_Qi D w s.heap.size (fun r w2 => r = iI (pB (mem f) h) ∧ w2 = w)) args s 0 0 (hm_A w s.heap.size)) w 5 [(0, .ref (q)), (1, .int (iI (h)))] [.int (iI (pF (mem f) h))]
  have hB : pB (mem f) h = if pF (mem f) h = 0 then 8 * pN (mem f) h else if pF (mem f) h = 1 then 256 else if pF (mem f) h = 2 then 16 * pR (mem f) h else 0 := rfl
  generalize pF (mem f) h = fm at hB hF ⊢
  rcases (show fm = 0 ∨ fm = 1 ∨ fm = 2 ∨ fm = -1 by omega) with rfl | rfl | rfl | rfl
  · refine hv_tableIn E 32 dX2_pieceBits_5 ⟨by omega, by omega⟩ (by omega) (by omega) rfl (by decide) ?_
    refine hv_bipush E dX2_pieceBits_32 (by decide +kernel) rfl ?_
    refine hv_aload_n E dX2_pieceBits_34 rfl 0 rfl rfl ?_
    refine hv_iload_n E dX2_pieceBits_35 rfl 1 rfl rfl ?_
    refine hv_callVI (na := 1) (As := [.int (iI (h))]) (st := [.int (iI (8))]) E (c2_pieceAmount l D K h h0 h1 hn) dX2_pieceBits_36 hn.1 (show vwCl[1]? = some (RX2, TX2, 1) from rfl) gL_X2_46 gV_X2_pieceAmount gI_X2_pieceAmount gC_X2_pieceAmount gZ_X2 (by decide +kernel) rfl ⟨Nat.le_of_ble_eq_true rfl, Nat.le_of_ble_eq_true rfl⟩ (Nat.le_of_ble_eq_true rfl) ⟨Nat.zero_le _, Nat.zero_le _⟩ rfl rfl (fun r w2 hp => ?_)
    rw [hp.1, hp.2]
    show hm_V p l e (hm_rm 3 0 0) s m args below meth c D (hm_A w s.heap.size) 2 0 0 (MQ below (hm_Qi D w s.heap.size (fun r w2 => r = iI (pB (mem f) h) ∧ w2 = w)) args s 0 0 (hm_A w s.heap.size)) w 39 [(0, .ref (q)), (1, .int (iI (h)))] [.int (iI (pN (mem f) h)), .int (iI (8))]
    refine hv_imul E dX2_pieceBits_39 rfl ?_
    exact hv_iret E dX2_pieceBits_40 hr ⟨by rw [hB]; rfl, rfl⟩
  · refine hv_tableIn E 41 dX2_pieceBits_5 ⟨by omega, by omega⟩ (by omega) (by omega) rfl (by decide) ?_
    refine hv_sipush E dX2_pieceBits_41 (by decide +kernel) rfl ?_
    exact hv_iret E dX2_pieceBits_44 hr ⟨by rw [hB]; rfl, rfl⟩
  · refine hv_tableIn E 45 dX2_pieceBits_5 ⟨by omega, by omega⟩ (by omega) (by omega) rfl (by decide) ?_
    refine hv_bipush E dX2_pieceBits_45 (by decide +kernel) rfl ?_
    refine hv_aload_n E dX2_pieceBits_47 rfl 0 rfl rfl ?_
    refine hv_iload_n E dX2_pieceBits_48 rfl 1 rfl rfl ?_
    refine hv_callVI (na := 1) (As := [.int (iI (h))]) (st := [.int (iI (16))]) E (c2_pieceRuns l D K h h0 h1 hn) dX2_pieceBits_49 hn.1 (show vwCl[1]? = some (RX2, TX2, 1) from rfl) gL_X2_49 gV_X2_pieceRuns gI_X2_pieceRuns gC_X2_pieceRuns gZ_X2 (by decide +kernel) rfl ⟨Nat.le_of_ble_eq_true rfl, Nat.le_of_ble_eq_true rfl⟩ (Nat.le_of_ble_eq_true rfl) ⟨Nat.zero_le _, Nat.zero_le _⟩ rfl rfl (fun r w2 hp => ?_)
    rw [hp.1, hp.2]
    show hm_V p l e (hm_rm 3 0 0) s m args below meth c D (hm_A w s.heap.size) 2 0 0 (MQ below (hm_Qi D w s.heap.size (fun r w2 => r = iI (pB (mem f) h) ∧ w2 = w)) args s 0 0 (hm_A w s.heap.size)) w 52 [(0, .ref (q)), (1, .int (iI (h)))] [.int (iI (pR (mem f) h)), .int (iI (16))]
    refine hv_imul E dX2_pieceBits_52 rfl ?_
    exact hv_iret E dX2_pieceBits_53 hr ⟨by rw [hB]; rfl, rfl⟩
  · refine hv_tableOut E 54 dX2_pieceBits_5 ⟨by omega, by omega⟩ (by omega) (by decide) ?_
    refine hv_iconst E dX2_pieceBits_54 rfl ?_
    exact hv_iret E dX2_pieceBits_55 hr ⟨by rw [hB]; rfl, rfl⟩
