theorem nAt.ne {K : Nat → ClassId} {w : hm_M} {q wd : Nat} {f : Nat → Int32} (h : nAt K w q wd f) : q ≠ wd := fun e => by
  have h1 := h.1
  rw [e, h.2] at h1
  cases h1
theorem nAt.ne2 {K : Nat → ClassId} {w : hm_M} {q wd q2 wd2 : Nat} {f g : Nat → Int32} (h : nAt K w q wd f) (h2 : nAt K w q2 wd2 g) : q2 ≠ wd := fun e => by
  have h1 := h2.1
  rw [e, h.2] at h1
  cases h1
theorem nAt.up {K : Nat → ClassId} {w : hm_M} {q wd : Nat} {f : Nat → Int32} (h : nAt K w q wd f) (g : Nat → Int32) : nAt K (hm_up w wd (.inl (K 0, 128, .inl g))) q wd g := ⟨by rw [hm_un h.ne]; exact h.1, hm_us⟩
theorem nAt.inj {K : Nat → ClassId} {w : hm_M} {q wd q2 : Nat} {f g : Nat → Int32} (h : nAt K w q wd f) (h2 : nAt K w q2 wd g) : g = f := by
  have := h.2.symm.trans h2.2
  cases this
  rfl
theorem bt_one {r i : Nat} (hr : r < 32) (hi : i < 32) : bt (iI 1 <<< (iI (r : Int) &&& 31)) i = decide (i = r) := by
  rw [iI_nI, b_shl r hr _ hi]
  have h1 : ∀ i, i < 32 → bt (iI 1) i = decide (i = 0) := by decide +kernel
  by_cases h : r ≤ i
  · rw [h1 _ (by omega), decide_eq_true h, Bool.true_and]; congr 1; apply propext; omega
  · rw [decide_eq_false h, decide_eq_false (by omega)]; rfl
theorem bt_ur {r i : Nat} (hr : r < 32) (hi : i < 32) : bt ((iI (-1)).toUInt32 >>> ((iI (r : Int)).toUInt32 &&& Int32.toUInt32 31)).toInt32 i = decide (r + i < 32) := by
  rw [iI_nI, b_ushr r hr]
  by_cases h : r + i < 32
  · rw [bt_m1 h, decide_eq_true h]
  · rw [b_big (by omega), decide_eq_false h]
theorem mem_upd (f : Nat → Int32) (j u : Nat) (x : Int32) : mem (upd f j x) u = if u / 32 = j then bt x (u % 32) else mem f u := by
  unfold mem upd
  split <;> rfl
theorem mem_add (f : Nat → Int32) {v : Int} (h0 : 0 ≤ v) (u : Nat) : mem (upd f (v / 32).toNat (f (v / 32).toNat ||| (iI 1 <<< (iI (v % 32) &&& 31)))) u = (mem f u || decide (u = v.toNat)) := by
  rw [mem_upd]
  have hb := bt_one (r := (v % 32).toNat) (i := u % 32) (by omega) (by omega)
  rw [Int.toNat_of_nonneg (show 0 ≤ v % 32 by omega)] at hb
  split
  · rename_i h
    rw [b_or, hb, show (f (v / 32).toNat) = f (u / 32) by rw [h]]
    show (mem f u || _) = _
    congr 1
    congr 1
    apply propext
    omega
  · rw [decide_eq_false (by omega), Bool.or_false]
def jb (n : Int) (x y : Bool) : Bool := if n = 0 then x && y else if n = 1 then x || y else if n = 2 then x && !y else x ^^ y
set_option maxHeartbeats 4000000 in
set_option maxRecDepth 100000 in
theorem c2_add (l : Launch) (D : va_G) (K : Nat → ClassId) {w : hm_M} {q wd : Nat} {f : Nat → Int32} (v : Int) (h0 : 0 ≤ v) (h1 : v < 4096) (hn : nAt K w q wd f)  : hm_Cv l D K yX2_add cX2_add 2 1 [.ref (q), .int (iI (v))] w 0 0 (fun w2 => ∃ f2 : Nat → Int32, w2 = hm_up w wd (.inl (K 0, 128, .inl (f2))) ∧ ∀ u, mem f2 u = (mem f u || decide (u = v.toNat))) := by
  refine hm_enterV (by decide) (Nat.le_of_ble_eq_true rfl) ?_
  intro p e s m args below meth c E hr hnm
  show hm_V p l e (hm_rm 1 0 0) s m args below meth c D (hm_A w s.heap.size) 2 0 0 (MQ below (hm_Qv D w s.heap.size (fun w2 => ∃ f2 : Nat → Int32, w2 = hm_up w wd (.inl (K 0, 128, .inl (f2))) ∧ ∀ u, mem f2 u = (mem f u || decide (u = v.toNat)))) args s 0 0 (hm_A w s.heap.size)) w 0 [(0, .ref (q)), (1, .int (iI (v)))] []
  refine hv_iload_n E dX2_add_0 rfl 1 rfl rfl ?_
  refine hv_callSNI (na := 1) (As := [.int (iI (v))]) (st := []) E (c6_isNumber l D K v ⟨by omega, by omega⟩) dX2_add_1 gN_X2_15 gS_X6_isNumber gC_X6_isNumber gZ_X6 (by decide +kernel) rfl ⟨Nat.le_of_ble_eq_true rfl, Nat.le_of_ble_eq_true rfl⟩ (Nat.le_of_ble_eq_true rfl) ⟨Nat.zero_le _, Nat.zero_le _⟩ rfl rfl (fun r w2 hp => ?_)
  rw [hp.1, hp.2]
  show hm_V p l e (hm_rm 1 0 0) s m args below meth c D (hm_A w s.heap.size) 2 0 0 (MQ below (hm_Qv D w s.heap.size (fun w2 => ∃ f2 : Nat → Int32, w2 = hm_up w wd (.inl (K 0, 128, .inl (f2))) ∧ ∀ u, mem f2 u = (mem f u || decide (u = v.toNat)))) args s 0 0 (hm_A w s.heap.size)) w 4 [(0, .ref (q)), (1, .int (iI (v)))] [.int (bI (decide (0 ≤ v ∧ v < 4096)))]
  refine hv_if_eqB E 24 dX2_add_4 (by decide) rfl (fun h2 => ?_) (fun h2 => ?_)
  · exact absurd (of_decide_eq_false h2) (fun z => z ⟨h0, h1⟩)
  · refine hv_aload_n E dX2_add_7 rfl 0 rfl rfl ?_
    refine hv_get (kf := 0) E dX2_add_8 (show vwCl[1]? = some (RX2, TX2, 1) from rfl) (by decide) gW_X2 gF_X2_9 rfl hn.1 rfl rfl ?_
    refine hv_iload_n E dX2_add_11 rfl 1 rfl rfl ?_
    refine hv_iconst E dX2_add_12 rfl ?_
    refine hv_ishrR E dX2_add_13 rfl rfl ?_
    refine hv_topi (show (iI (v)) >>> ((iI (5)) &&& 31) = iI (v / 32) from iI_shr5 ⟨by omega, by omega⟩) ?_
    refine hv_dup2 E dX2_add_14 rfl rfl rfl ?_
    refine hv_iald E dX2_add_15 hn.2 (by omega) (by omega) (by decide) rfl ?_
    refine hv_iconst E dX2_add_16 rfl ?_
    refine hv_iload_n E dX2_add_17 rfl 1 rfl rfl ?_
    refine hv_bipush E dX2_add_18 (by decide +kernel) rfl ?_
    refine hv_iandR E dX2_add_20 rfl ?_
    refine hv_topi (show (iI (v)) &&& (iI (31)) = iI (v % 32) from iI_and31 v) ?_
    refine hv_ishlR E dX2_add_21 rfl rfl ?_
    refine hv_iorR E dX2_add_22 rfl ?_
    refine hv_iast E dX2_add_23 hn.2 (by omega) (by omega) (by decide) rfl ?_
    exact hv_vret E dX2_add_24 hr ⟨_, rfl, fun u => mem_add f h0 u⟩
set_option maxHeartbeats 4000000 in
set_option maxRecDepth 100000 in
theorem c2_maskInWord (l : Launch) (D : va_G) (K : Nat → ClassId) {w : hm_M} (j x y : Int) (h0 : 0 ≤ x) (h1 : x ≤ y) (h2 : y < 4096) (h3 : x / 32 ≤ j) (h4 : j ≤ y / 32)  : hm_Ci l D K yX2_maskInWord cX2_maskInWord 4 .int 0 [.int (iI (j)), .int (iI (x)), .int (iI (y))] w 0 0 (fun r w2 => (∀ i : Nat, i < 32 → bt r i = decide (x ≤ 32 * j + (i : Int) ∧ 32 * j + (i : Int) ≤ y)) ∧ w2 = w) := by
  refine hm_enterI (by decide) (Nat.le_of_ble_eq_true rfl) ?_
  intro p e s m args below meth c E hr hnm
  show hm_V p l e (hm_rm 0 0 0) s m args below meth c D (hm_A w s.heap.size) 4 0 0 (MQ below (hm_Qi D w s.heap.size (fun r w2 => (∀ i : Nat, i < 32 → bt r i = decide (x ≤ 32 * j + (i : Int) ∧ 32 * j + (i : Int) ≤ y)) ∧ w2 = w)) args s 0 0 (hm_A w s.heap.size)) w 0 [(0, .int (iI (j))), (1, .int (iI (x))), (2, .int (iI (y)))] []
  refine hv_iconst E dX2_maskInWord_0 rfl ?_
  refine hv_istore_n (lv2 := [(3, .int (iI ((-1)))), (0, .int (iI (j))), (1, .int (iI (x))), (2, .int (iI (y)))]) E dX2_maskInWord_1 rfl (by decide) rfl rfl ?_
  refine hv_iload_n E dX2_maskInWord_2 rfl 1 rfl rfl ?_
  refine hv_iload_n E dX2_maskInWord_3 rfl 2 rfl rfl ?_
  refine hv_iconst E dX2_maskInWord_4 rfl ?_
  refine hv_ishrR E dX2_maskInWord_5 rfl rfl ?_
  refine hv_topi (show (iI (x)) >>> ((iI (5)) &&& 31) = iI (x / 32) from iI_shr5 ⟨by omega, by omega⟩) ?_
  refine hv_icmp_ne E 18 dX2_maskInWord_6 (by decide) ⟨by omega, by omega⟩ ⟨by omega, by omega⟩ rfl (fun h5 => ?_) (fun h5 => ?_)
  · refine hv_iload_n E dX2_maskInWord_18 rfl 1 rfl rfl ?_
    refine hv_iload_n E dX2_maskInWord_19 rfl 3 rfl rfl ?_
    refine hv_iconst E dX2_maskInWord_20 rfl ?_
    refine hv_ishrR E dX2_maskInWord_21 rfl rfl ?_
    refine hv_topi (show (iI (y)) >>> ((iI (5)) &&& 31) = iI (y / 32) from iI_shr5 ⟨by omega, by omega⟩) ?_
    refine hv_icmp_ne E 37 dX2_maskInWord_22 (by decide) ⟨by omega, by omega⟩ ⟨by omega, by omega⟩ rfl (fun h6 => ?_) (fun h6 => ?_)
    · refine hv_iload_n E dX2_maskInWord_37 rfl 0 rfl rfl ?_
      exact hv_iret E dX2_maskInWord_38 hr ⟨fun i hi => by
            rw [bt_m1 hi, decide_eq_true (by omega)], rfl⟩
    · refine hv_iload_n E dX2_maskInWord_25 rfl 0 rfl rfl ?_
      refine hv_iconst E dX2_maskInWord_26 rfl ?_
      refine hv_bipush E dX2_maskInWord_27 (by decide +kernel) rfl ?_
      refine hv_iload_n E dX2_maskInWord_29 rfl 3 rfl rfl ?_
      refine hv_bipush E dX2_maskInWord_30 (by decide +kernel) rfl ?_
      refine hv_iandR E dX2_maskInWord_32 rfl ?_
      refine hv_topi (show (iI (y)) &&& (iI (31)) = iI (y % 32) from iI_and31 y) ?_
      refine hv_isub E dX2_maskInWord_33 rfl ?_
      refine hv_topi (show iI (31 - (y % 32)) = iI ((((31 - y % 32).toNat : Nat) : Int)) from (by rw [Int.toNat_of_nonneg (show 0 ≤ 31 - y % 32 by omega)])) ?_
      refine hv_iushrR E dX2_maskInWord_34 rfl rfl ?_
      refine hv_iandR E dX2_maskInWord_35 rfl ?_
      refine hv_istore_n (lv2 := [(3, .int ((iI ((-1))) &&& (((iI ((-1))).toUInt32 >>> ((iI ((((31 - y % 32).toNat : Nat) : Int))).toUInt32 &&& Int32.toUInt32 31)).toInt32))), (0, .int (iI (j))), (1, .int (iI (x))), (2, .int (iI (y)))]) E dX2_maskInWord_36 rfl (by decide) rfl rfl ?_
      refine hv_iload_n E dX2_maskInWord_37 rfl 0 rfl rfl ?_
      exact hv_iret E dX2_maskInWord_38 hr ⟨fun i hi => by
            rw [b_and, bt_m1 hi, bt_ur (by omega) hi, Bool.true_and]
            congr 1; apply propext; omega, rfl⟩
  · refine hv_iload_n E dX2_maskInWord_9 rfl 0 rfl rfl ?_
    refine hv_iconst E dX2_maskInWord_10 rfl ?_
    refine hv_iload_n E dX2_maskInWord_11 rfl 2 rfl rfl ?_
    refine hv_bipush E dX2_maskInWord_12 (by decide +kernel) rfl ?_
    refine hv_iandR E dX2_maskInWord_14 rfl ?_
    refine hv_topi (show (iI (x)) &&& (iI (31)) = iI ((((x % 32).toNat : Nat) : Int)) from (by rw [Int.toNat_of_nonneg (show 0 ≤ x % 32 by omega)]; exact iI_and31 x)) ?_
    refine hv_ishlR E dX2_maskInWord_15 rfl rfl ?_
    refine hv_iandR E dX2_maskInWord_16 rfl ?_
    refine hv_istore_n (lv2 := [(3, .int ((iI ((-1))) &&& ((iI ((-1))) <<< ((iI ((((x % 32).toNat : Nat) : Int))) &&& 31)))), (0, .int (iI (j))), (1, .int (iI (x))), (2, .int (iI (y)))]) E dX2_maskInWord_17 rfl (by decide) rfl rfl ?_
    refine hv_iload_n E dX2_maskInWord_18 rfl 1 rfl rfl ?_
    refine hv_iload_n E dX2_maskInWord_19 rfl 3 rfl rfl ?_
    refine hv_iconst E dX2_maskInWord_20 rfl ?_
    refine hv_ishrR E dX2_maskInWord_21 rfl rfl ?_
    refine hv_topi (show (iI (y)) >>> ((iI (5)) &&& 31) = iI (y / 32) from iI_shr5 ⟨by omega, by omega⟩) ?_
    refine hv_icmp_ne E 37 dX2_maskInWord_22 (by decide) ⟨by omega, by omega⟩ ⟨by omega, by omega⟩ rfl (fun h6 => ?_) (fun h6 => ?_)
    · refine hv_iload_n E dX2_maskInWord_37 rfl 0 rfl rfl ?_
      exact hv_iret E dX2_maskInWord_38 hr ⟨fun i hi => by
            rw [b_and, bt_m1 hi, bt_hi (by omega) hi, Bool.true_and]
            congr 1; apply propext; omega, rfl⟩
    · refine hv_iload_n E dX2_maskInWord_25 rfl 0 rfl rfl ?_
      refine hv_iconst E dX2_maskInWord_26 rfl ?_
      refine hv_bipush E dX2_maskInWord_27 (by decide +kernel) rfl ?_
      refine hv_iload_n E dX2_maskInWord_29 rfl 3 rfl rfl ?_
      refine hv_bipush E dX2_maskInWord_30 (by decide +kernel) rfl ?_
      refine hv_iandR E dX2_maskInWord_32 rfl ?_
      refine hv_topi (show (iI (y)) &&& (iI (31)) = iI (y % 32) from iI_and31 y) ?_
      refine hv_isub E dX2_maskInWord_33 rfl ?_
      refine hv_topi (show iI (31 - (y % 32)) = iI ((((31 - y % 32).toNat : Nat) : Int)) from (by rw [Int.toNat_of_nonneg (show 0 ≤ 31 - y % 32 by omega)])) ?_
      refine hv_iushrR E dX2_maskInWord_34 rfl rfl ?_
      refine hv_iandR E dX2_maskInWord_35 rfl ?_
      refine hv_istore_n (lv2 := [(3, .int (((iI ((-1))) &&& ((iI ((-1))) <<< ((iI ((((x % 32).toNat : Nat) : Int))) &&& 31))) &&& (((iI ((-1))).toUInt32 >>> ((iI ((((31 - y % 32).toNat : Nat) : Int))).toUInt32 &&& Int32.toUInt32 31)).toInt32))), (0, .int (iI (j))), (1, .int (iI (x))), (2, .int (iI (y)))]) E dX2_maskInWord_36 rfl (by decide) rfl rfl ?_
      refine hv_iload_n E dX2_maskInWord_37 rfl 0 rfl rfl ?_
      exact hv_iret E dX2_maskInWord_38 hr ⟨fun i hi => by
            rw [b_and, b_and, bt_m1 hi, bt_hi (by omega) hi, bt_ur (by omega) hi, Bool.true_and, ← Bool.decide_and]
            congr 1; apply propext; omega, rfl⟩
set_option maxHeartbeats 4000000 in
set_option maxRecDepth 100000 in
theorem c2_include (l : Launch) (D : va_G) (K : Nat → ClassId) {w : hm_M} {q wd : Nat} {f : Nat → Int32} (x y : Int) (h0 : 0 ≤ x) (h1 : x ≤ y) (h2 : y < 4096) (hn : nAt K w q wd f)  : hm_Cv l D K yX2_include cX2_include 4 1 [.ref (q), .int (iI (x)), .int (iI (y))] w 0 0 (fun w2 => ∃ f2 : Nat → Int32, w2 = hm_up w wd (.inl (K 0, 128, .inl (f2))) ∧ ∀ u : Nat, mem f2 u = (mem f u || decide (x ≤ (u : Int) ∧ (u : Int) ≤ y))) := by
  refine hm_enterV (by decide) (Nat.le_of_ble_eq_true rfl) ?_
  intro p e s m args below meth c E hr hnm
  show hm_V p l e (hm_rm 1 0 0) s m args below meth c D (hm_A w s.heap.size) 4 0 0 (MQ below (hm_Qv D w s.heap.size (fun w2 => ∃ f2 : Nat → Int32, w2 = hm_up w wd (.inl (K 0, 128, .inl (f2))) ∧ ∀ u : Nat, mem f2 u = (mem f u || decide (x ≤ (u : Int) ∧ (u : Int) ≤ y)))) args s 0 0 (hm_A w s.heap.size)) w 0 [(0, .ref (q)), (1, .int (iI (x))), (2, .int (iI (y)))] []
  refine hv_iload_n E dX2_include_0 rfl 1 rfl rfl ?_
  refine hv_iload_n E dX2_include_1 rfl 2 rfl rfl ?_
  refine hv_callSNI (na := 2) (As := [.int (iI (x)), .int (iI (y))]) (st := []) E (c6_isSpan l D K x y ⟨by omega, by omega⟩ ⟨by omega, by omega⟩) dX2_include_2 gN_X2_35 gS_X6_isSpan gC_X6_isSpan gZ_X6 (by decide +kernel) rfl ⟨Nat.le_of_ble_eq_true rfl, Nat.le_of_ble_eq_true rfl⟩ (Nat.le_of_ble_eq_true rfl) ⟨Nat.zero_le _, Nat.zero_le _⟩ rfl rfl (fun r w2 hp => ?_)
  rw [hp.1, hp.2]
  show hm_V p l e (hm_rm 1 0 0) s m args below meth c D (hm_A w s.heap.size) 4 0 0 (MQ below (hm_Qv D w s.heap.size (fun w2 => ∃ f2 : Nat → Int32, w2 = hm_up w wd (.inl (K 0, 128, .inl (f2))) ∧ ∀ u : Nat, mem f2 u = (mem f u || decide (x ≤ (u : Int) ∧ (u : Int) ≤ y)))) args s 0 0 (hm_A w s.heap.size)) w 5 [(0, .ref (q)), (1, .int (iI (x))), (2, .int (iI (y)))] [.int (bI (decide (0 ≤ x ∧ x ≤ y ∧ y < 4096)))]
  refine hv_if_neB E 9 dX2_include_5 (by decide) rfl (fun h3 => ?_) (fun h3 => ?_)
  · refine hv_iload_n E dX2_include_9 rfl 1 rfl rfl ?_
    refine hv_iconst E dX2_include_10 rfl ?_
    refine hv_ishrR E dX2_include_11 rfl rfl ?_
    refine hv_topi (show (iI (x)) >>> ((iI (5)) &&& 31) = iI (x / 32) from iI_shr5 ⟨by omega, by omega⟩) ?_
    refine hv_istore_n (lv2 := [(3, .int (iI (x / 32))), (0, .ref (q)), (1, .int (iI (x))), (2, .int (iI (y)))]) E dX2_include_12 rfl (by decide) rfl rfl ?_
    refine hv_mem (show w = hm_up w wd (.inl (K 0, 128, .inl (f))) from (hm_uid hn.2).symm) ?_
    have LP : ∀ (k : Nat) (j : Int) (g : Nat → Int32), (y / 32 + 1 - j < (k : Int)) → (x / 32 ≤ j) → (j ≤ y / 32 + 1) → (∀ u : Nat, mem g u = (mem f u || decide (x ≤ (u : Int) ∧ (u : Int) ≤ y ∧ (u : Int) < 32 * j))) → hm_V p l e (hm_rm 1 0 0) s m args below meth c D (hm_A w s.heap.size) 4 0 0 (MQ below (hm_Qv D w s.heap.size (fun w2 => ∃ f2 : Nat → Int32, w2 = hm_up w wd (.inl (K 0, 128, .inl (f2))) ∧ ∀ u : Nat, mem f2 u = (mem f u || decide (x ≤ (u : Int) ∧ (u : Int) ≤ y)))) args s 0 0 (hm_A w s.heap.size)) (hm_up w wd (.inl (K 0, 128, .inl (g)))) 13 [(3, .int (iI (j))), (0, .ref (q)), (1, .int (iI (x))), (2, .int (iI (y)))] [] := by
      intro k
      induction k with
      | zero =>
        intro j g hk g0 g1 hg
        exact absurd hk (by omega)
      | succ k ih =>
        intro j g hk g0 g1 hg
        have hn2 := hn.up g
        refine hv_iload_n E dX2_include_13 rfl 0 rfl rfl ?_
        refine hv_iload_n E dX2_include_14 rfl 3 rfl rfl ?_
        refine hv_iconst E dX2_include_15 rfl ?_
        refine hv_ishrR E dX2_include_16 rfl rfl ?_
        refine hv_topi (show (iI (y)) >>> ((iI (5)) &&& 31) = iI (y / 32) from iI_shr5 ⟨by omega, by omega⟩) ?_
        refine hv_icmp_gt E 41 dX2_include_17 (by decide) ⟨by omega, by omega⟩ ⟨by omega, by omega⟩ rfl (fun h4 => ?_) (fun h4 => ?_)
        · exact hv_vret E dX2_include_41 hr ⟨g, rfl, fun u => by rw [hg]; congr 1; congr 1; apply propext; omega⟩
        · refine hv_aload_n E dX2_include_20 rfl 1 rfl rfl ?_
          refine hv_get (kf := 0) E dX2_include_21 (show vwCl[1]? = some (RX2, TX2, 1) from rfl) (by decide) gW_X2 gF_X2_9 rfl hn2.1 rfl rfl ?_
          refine hv_iload_n E dX2_include_24 rfl 0 rfl rfl ?_
          refine hv_dup2 E dX2_include_25 rfl rfl rfl ?_
          refine hv_iald E dX2_include_26 hn2.2 (by omega) (by omega) (by decide) rfl ?_
          refine hv_iload_n E dX2_include_27 rfl 0 rfl rfl ?_
          refine hv_iload_n E dX2_include_28 rfl 2 rfl rfl ?_
          refine hv_iload_n E dX2_include_29 rfl 3 rfl rfl ?_
          refine hv_callSI (na := 3) (As := [.int (iI (j)), .int (iI (x)), .int (iI (y))]) (st := [.int (g j.toNat), .int (iI (j)), .ref (wd)]) E (c2_maskInWord l D K j x y h0 h1 h2 (by omega) (by omega)) dX2_include_30 gL_X2_39 gS_X2_maskInWord gC_X2_maskInWord gZ_X2 (by decide +kernel) rfl ⟨Nat.le_of_ble_eq_true rfl, Nat.le_of_ble_eq_true rfl⟩ (Nat.le_of_ble_eq_true rfl) ⟨Nat.zero_le _, Nat.zero_le _⟩ rfl rfl (fun mk w2 hp => ?_)
          obtain ⟨hm, hw2⟩ := hp
          rw [hw2]
          show hm_V p l e (hm_rm 1 0 0) s m args below meth c D (hm_A w s.heap.size) 4 0 0 (MQ below (hm_Qv D w s.heap.size (fun w2 => ∃ f2 : Nat → Int32, w2 = hm_up w wd (.inl (K 0, 128, .inl (f2))) ∧ ∀ u : Nat, mem f2 u = (mem f u || decide (x ≤ (u : Int) ∧ (u : Int) ≤ y)))) args s 0 0 (hm_A w s.heap.size)) (hm_up w wd (.inl (K 0, 128, .inl (g)))) 33 [(3, .int (iI (j))), (0, .ref (q)), (1, .int (iI (x))), (2, .int (iI (y)))] [.int (mk), .int (g j.toNat), .int (iI (j)), .ref (wd)]
          refine hv_iorR E dX2_include_33 rfl ?_
          refine hv_iast E dX2_include_34 hn2.2 (by omega) (by omega) (by decide) rfl ?_
          refine hv_mem (show hm_up (hm_up w wd (.inl (K 0, 128, .inl (g)))) wd (.inl (K 0, 128, .inl (upd g j.toNat ((g j.toNat) ||| mk)))) = hm_up w wd (.inl (K 0, 128, .inl (upd g j.toNat ((g j.toNat) ||| mk)))) from hm_uu) ?_
          refine hv_iinc (lv2 := [(3, .int (iI (j + 1))), (0, .ref (q)), (1, .int (iI (x))), (2, .int (iI (y)))]) E dX2_include_35 0 rfl rfl (by decide) rfl rfl ?_
          refine hv_goto E 13 dX2_include_38 (by decide) ?_
          refine hv_sub (lv2 := [(3, .int (iI (j + 1))), (0, .ref (q)), (1, .int (iI (x))), (2, .int (iI (y)))]) [0, 1, 2, 3] rfl ?_
          exact ih (j + 1) _ (by omega) (by omega) (by omega) (fun u => by
                rw [mem_upd]
                split
                · rename_i hu
                  rw [b_or, hm _ (by omega), ← hu]
                  show (mem g u || decide _) = _
                  rw [hg u, decide_eq_false (show ¬ (x ≤ (u : Int) ∧ (u : Int) ≤ y ∧ (u : Int) < 32 * j) by omega)]
                  rw [Bool.or_false]
                  congr 1; congr 1; apply propext; omega
                · rw [hg u]; congr 1; congr 1; apply propext; omega)
    refine hv_sub (lv2 := [(3, .int (iI (x / 32))), (0, .ref (q)), (1, .int (iI (x))), (2, .int (iI (y)))]) [0, 1, 2, 3] rfl ?_
    exact LP (y / 32 + 2).toNat (x / 32) f (by omega) (by omega) (by omega) (fun u => by rw [decide_eq_false (by omega)]; simp)
  · exact absurd (of_decide_eq_false h3) (fun z => z ⟨h0, h1, h2⟩)
set_option maxHeartbeats 4000000 in
set_option maxRecDepth 100000 in
theorem c2_exclude (l : Launch) (D : va_G) (K : Nat → ClassId) {w : hm_M} {q wd : Nat} {f : Nat → Int32} (x y : Int) (h0 : 0 ≤ x) (h1 : x ≤ y) (h2 : y < 4096) (hn : nAt K w q wd f)  : hm_Cv l D K yX2_exclude cX2_exclude 4 1 [.ref (q), .int (iI (x)), .int (iI (y))] w 0 0 (fun w2 => ∃ f2 : Nat → Int32, w2 = hm_up w wd (.inl (K 0, 128, .inl (f2))) ∧ ∀ u : Nat, mem f2 u = (mem f u && !decide (x ≤ (u : Int) ∧ (u : Int) ≤ y))) := by
  refine hm_enterV (by decide) (Nat.le_of_ble_eq_true rfl) ?_
  intro p e s m args below meth c E hr hnm
  show hm_V p l e (hm_rm 1 0 0) s m args below meth c D (hm_A w s.heap.size) 4 0 0 (MQ below (hm_Qv D w s.heap.size (fun w2 => ∃ f2 : Nat → Int32, w2 = hm_up w wd (.inl (K 0, 128, .inl (f2))) ∧ ∀ u : Nat, mem f2 u = (mem f u && !decide (x ≤ (u : Int) ∧ (u : Int) ≤ y)))) args s 0 0 (hm_A w s.heap.size)) w 0 [(0, .ref (q)), (1, .int (iI (x))), (2, .int (iI (y)))] []
  refine hv_iload_n E dX2_exclude_0 rfl 1 rfl rfl ?_
  refine hv_iload_n E dX2_exclude_1 rfl 2 rfl rfl ?_
  refine hv_callSNI (na := 2) (As := [.int (iI (x)), .int (iI (y))]) (st := []) E (c6_isSpan l D K x y ⟨by omega, by omega⟩ ⟨by omega, by omega⟩) dX2_exclude_2 gN_X2_35 gS_X6_isSpan gC_X6_isSpan gZ_X6 (by decide +kernel) rfl ⟨Nat.le_of_ble_eq_true rfl, Nat.le_of_ble_eq_true rfl⟩ (Nat.le_of_ble_eq_true rfl) ⟨Nat.zero_le _, Nat.zero_le _⟩ rfl rfl (fun r w2 hp => ?_)
  rw [hp.1, hp.2]
  show hm_V p l e (hm_rm 1 0 0) s m args below meth c D (hm_A w s.heap.size) 4 0 0 (MQ below (hm_Qv D w s.heap.size (fun w2 => ∃ f2 : Nat → Int32, w2 = hm_up w wd (.inl (K 0, 128, .inl (f2))) ∧ ∀ u : Nat, mem f2 u = (mem f u && !decide (x ≤ (u : Int) ∧ (u : Int) ≤ y)))) args s 0 0 (hm_A w s.heap.size)) w 5 [(0, .ref (q)), (1, .int (iI (x))), (2, .int (iI (y)))] [.int (bI (decide (0 ≤ x ∧ x ≤ y ∧ y < 4096)))]
  refine hv_if_neB E 9 dX2_exclude_5 (by decide) rfl (fun h3 => ?_) (fun h3 => ?_)
  · refine hv_iload_n E dX2_exclude_9 rfl 1 rfl rfl ?_
    refine hv_iconst E dX2_exclude_10 rfl ?_
    refine hv_ishrR E dX2_exclude_11 rfl rfl ?_
    refine hv_topi (show (iI (x)) >>> ((iI (5)) &&& 31) = iI (x / 32) from iI_shr5 ⟨by omega, by omega⟩) ?_
    refine hv_istore_n (lv2 := [(3, .int (iI (x / 32))), (0, .ref (q)), (1, .int (iI (x))), (2, .int (iI (y)))]) E dX2_exclude_12 rfl (by decide) rfl rfl ?_
    refine hv_mem (show w = hm_up w wd (.inl (K 0, 128, .inl (f))) from (hm_uid hn.2).symm) ?_
    have LP : ∀ (k : Nat) (j : Int) (g : Nat → Int32), (y / 32 + 1 - j < (k : Int)) → (x / 32 ≤ j) → (j ≤ y / 32 + 1) → (∀ u : Nat, mem g u = (mem f u && !decide (x ≤ (u : Int) ∧ (u : Int) ≤ y ∧ (u : Int) < 32 * j))) → hm_V p l e (hm_rm 1 0 0) s m args below meth c D (hm_A w s.heap.size) 4 0 0 (MQ below (hm_Qv D w s.heap.size (fun w2 => ∃ f2 : Nat → Int32, w2 = hm_up w wd (.inl (K 0, 128, .inl (f2))) ∧ ∀ u : Nat, mem f2 u = (mem f u && !decide (x ≤ (u : Int) ∧ (u : Int) ≤ y)))) args s 0 0 (hm_A w s.heap.size)) (hm_up w wd (.inl (K 0, 128, .inl (g)))) 13 [(3, .int (iI (j))), (0, .ref (q)), (1, .int (iI (x))), (2, .int (iI (y)))] [] := by
      intro k
      induction k with
      | zero =>
        intro j g hk g0 g1 hg
        exact absurd hk (by omega)
      | succ k ih =>
        intro j g hk g0 g1 hg
        have hn2 := hn.up g
        refine hv_iload_n E dX2_exclude_13 rfl 0 rfl rfl ?_
        refine hv_iload_n E dX2_exclude_14 rfl 3 rfl rfl ?_
        refine hv_iconst E dX2_exclude_15 rfl ?_
        refine hv_ishrR E dX2_exclude_16 rfl rfl ?_
        refine hv_topi (show (iI (y)) >>> ((iI (5)) &&& 31) = iI (y / 32) from iI_shr5 ⟨by omega, by omega⟩) ?_
        refine hv_icmp_gt E 43 dX2_exclude_17 (by decide) ⟨by omega, by omega⟩ ⟨by omega, by omega⟩ rfl (fun h4 => ?_) (fun h4 => ?_)
        · exact hv_vret E dX2_exclude_43 hr ⟨g, rfl, fun u => by rw [hg]; congr 1; congr 1; congr 1; apply propext; omega⟩
        · refine hv_aload_n E dX2_exclude_20 rfl 1 rfl rfl ?_
          refine hv_get (kf := 0) E dX2_exclude_21 (show vwCl[1]? = some (RX2, TX2, 1) from rfl) (by decide) gW_X2 gF_X2_9 rfl hn2.1 rfl rfl ?_
          refine hv_iload_n E dX2_exclude_24 rfl 0 rfl rfl ?_
          refine hv_dup2 E dX2_exclude_25 rfl rfl rfl ?_
          refine hv_iald E dX2_exclude_26 hn2.2 (by omega) (by omega) (by decide) rfl ?_
          refine hv_iload_n E dX2_exclude_27 rfl 0 rfl rfl ?_
          refine hv_iload_n E dX2_exclude_28 rfl 2 rfl rfl ?_
          refine hv_iload_n E dX2_exclude_29 rfl 3 rfl rfl ?_
          refine hv_callSI (na := 3) (As := [.int (iI (j)), .int (iI (x)), .int (iI (y))]) (st := [.int (g j.toNat), .int (iI (j)), .ref (wd)]) E (c2_maskInWord l D K j x y h0 h1 h2 (by omega) (by omega)) dX2_exclude_30 gL_X2_39 gS_X2_maskInWord gC_X2_maskInWord gZ_X2 (by decide +kernel) rfl ⟨Nat.le_of_ble_eq_true rfl, Nat.le_of_ble_eq_true rfl⟩ (Nat.le_of_ble_eq_true rfl) ⟨Nat.zero_le _, Nat.zero_le _⟩ rfl rfl (fun mk w2 hp => ?_)
          obtain ⟨hm, hw2⟩ := hp
          rw [hw2]
          show hm_V p l e (hm_rm 1 0 0) s m args below meth c D (hm_A w s.heap.size) 4 0 0 (MQ below (hm_Qv D w s.heap.size (fun w2 => ∃ f2 : Nat → Int32, w2 = hm_up w wd (.inl (K 0, 128, .inl (f2))) ∧ ∀ u : Nat, mem f2 u = (mem f u && !decide (x ≤ (u : Int) ∧ (u : Int) ≤ y)))) args s 0 0 (hm_A w s.heap.size)) (hm_up w wd (.inl (K 0, 128, .inl (g)))) 33 [(3, .int (iI (j))), (0, .ref (q)), (1, .int (iI (x))), (2, .int (iI (y)))] [.int (mk), .int (g j.toNat), .int (iI (j)), .ref (wd)]
          refine hv_iconst E dX2_exclude_33 rfl ?_
          refine hv_ixorR E dX2_exclude_34 rfl ?_
          refine hv_iandR E dX2_exclude_35 rfl ?_
          refine hv_iast E dX2_exclude_36 hn2.2 (by omega) (by omega) (by decide) rfl ?_
          refine hv_mem (show hm_up (hm_up w wd (.inl (K 0, 128, .inl (g)))) wd (.inl (K 0, 128, .inl (upd g j.toNat ((g j.toNat) &&& (mk ^^^ (iI ((-1)))))))) = hm_up w wd (.inl (K 0, 128, .inl (upd g j.toNat ((g j.toNat) &&& (mk ^^^ (iI ((-1)))))))) from hm_uu) ?_
          refine hv_iinc (lv2 := [(3, .int (iI (j + 1))), (0, .ref (q)), (1, .int (iI (x))), (2, .int (iI (y)))]) E dX2_exclude_37 0 rfl rfl (by decide) rfl rfl ?_
          refine hv_goto E 13 dX2_exclude_40 (by decide) ?_
          refine hv_sub (lv2 := [(3, .int (iI (j + 1))), (0, .ref (q)), (1, .int (iI (x))), (2, .int (iI (y)))]) [0, 1, 2, 3] rfl ?_
          exact ih (j + 1) _ (by omega) (by omega) (by omega) (fun u => by
                rw [mem_upd]
                split
                · rename_i hu
                  rw [b_and, b_xor, bt_m1 (by omega), hm _ (by omega), ← hu]
                  show (mem g u && (decide _ ^^ true)) = _
                  rw [hg u, decide_eq_false (show ¬ (x ≤ (u : Int) ∧ (u : Int) ≤ y ∧ (u : Int) < 32 * j) by omega)]
                  rw [Bool.not_false, Bool.and_true, Bool.xor_true]
                  congr 1; congr 1; congr 1; apply propext; omega
                · rw [hg u]; congr 1; congr 1; congr 1; apply propext; omega)
    refine hv_sub (lv2 := [(3, .int (iI (x / 32))), (0, .ref (q)), (1, .int (iI (x))), (2, .int (iI (y)))]) [0, 1, 2, 3] rfl ?_
    exact LP (y / 32 + 2).toNat (x / 32) f (by omega) (by omega) (by omega) (fun u => by rw [decide_eq_false (by omega)]; simp)
  · exact absurd (of_decide_eq_false h3) (fun z => z ⟨h0, h1, h2⟩)
set_option maxHeartbeats 4000000 in
set_option maxRecDepth 100000 in
theorem c2_joined (l : Launch) (D : va_G) (K : Nat → ClassId) {w : hm_M} (x y : Int32) (n : Int) (h0 : 0 ≤ n) (h1 : n < 4)  : hm_Ci l D K yX2_joined cX2_joined 3 .int 0 [.int (x), .int (y), .int (iI (n))] w 0 0 (fun r w2 => (∀ i : Nat, i < 32 → bt r i = jb n (bt x i) (bt y i)) ∧ w2 = w) := by
  refine hm_enterI (by decide) (Nat.le_of_ble_eq_true rfl) ?_
  intro p e s m args below meth c E hr hnm
  show hm_V p l e (hm_rm 0 0 0) s m args below meth c D (hm_A w s.heap.size) 3 0 0 (MQ below (hm_Qi D w s.heap.size (fun r w2 => (∀ i : Nat, i < 32 → bt r i = jb n (bt x i) (bt y i)) ∧ w2 = w)) args s 0 0 (hm_A w s.heap.size)) w 0 [(0, .int (x)), (1, .int (y)), (2, .int (iI (n)))] []
  refine hv_iload_n E dX2_joined_0 rfl 2 rfl rfl ?_
  rcases (show n = 0 ∨ n = 1 ∨ n = 2 ∨ n = 3 by omega) with rfl | rfl | rfl | rfl
  · refine hv_tableIn E 28 dX2_joined_1 ⟨by omega, by omega⟩ (by omega) (by omega) rfl (by decide) ?_
    refine hv_iload_n E dX2_joined_28 rfl 0 rfl rfl ?_
    refine hv_iload_n E dX2_joined_29 rfl 1 rfl rfl ?_
    refine hv_iandR E dX2_joined_30 rfl ?_
    exact hv_iret E dX2_joined_31 hr ⟨fun i hi => by rw [b_and]; rfl, rfl⟩
  · refine hv_tableIn E 32 dX2_joined_1 ⟨by omega, by omega⟩ (by omega) (by omega) rfl (by decide) ?_
    refine hv_iload_n E dX2_joined_32 rfl 0 rfl rfl ?_
    refine hv_iload_n E dX2_joined_33 rfl 1 rfl rfl ?_
    refine hv_iorR E dX2_joined_34 rfl ?_
    exact hv_iret E dX2_joined_35 hr ⟨fun i hi => by rw [b_or]; rfl, rfl⟩
  · refine hv_tableIn E 36 dX2_joined_1 ⟨by omega, by omega⟩ (by omega) (by omega) rfl (by decide) ?_
    refine hv_iload_n E dX2_joined_36 rfl 0 rfl rfl ?_
    refine hv_iload_n E dX2_joined_37 rfl 1 rfl rfl ?_
    refine hv_iconst E dX2_joined_38 rfl ?_
    refine hv_ixorR E dX2_joined_39 rfl ?_
    refine hv_iandR E dX2_joined_40 rfl ?_
    exact hv_iret E dX2_joined_41 hr ⟨fun i hi => by rw [b_and, b_xor, bt_m1 hi, Bool.xor_true]; rfl, rfl⟩
  · refine hv_tableOut E 42 dX2_joined_1 ⟨by omega, by omega⟩ (by omega) (by decide) ?_
    refine hv_iload_n E dX2_joined_42 rfl 0 rfl rfl ?_
    refine hv_iload_n E dX2_joined_43 rfl 1 rfl rfl ?_
    refine hv_ixorR E dX2_joined_44 rfl ?_
    exact hv_iret E dX2_joined_45 hr ⟨fun i hi => by rw [b_xor]; rfl, rfl⟩
set_option maxHeartbeats 4000000 in
set_option maxRecDepth 100000 in
theorem c2_become (l : Launch) (D : va_G) (K : Nat → ClassId) {w : hm_M} {q wd : Nat} {f : Nat → Int32} {qa wa qb wb : Nat} {fa fb : Nat → Int32} (n : Int) (h0 : 0 ≤ n) (h1 : n < 4) (hn : nAt K w q wd f) (ha : nAt K w qa wa fa) (hb : nAt K w qb wb fb)  : hm_Cv l D K yX2_become cX2_become 5 1 [.ref (q), .ref (qa), .ref (qb), .int (iI (n))] w 0 0 (fun w2 => ∃ f2 : Nat → Int32, w2 = hm_up w wd (.inl (K 0, 128, .inl (f2))) ∧ ∀ u : Nat, u < 4096 → mem f2 u = jb n (mem fa u) (mem fb u)) := by
  refine hm_enterV (by decide) (Nat.le_of_ble_eq_true rfl) ?_
  intro p e s m args below meth c E hr hnm
  show hm_V p l e (hm_rm 1 0 0) s m args below meth c D (hm_A w s.heap.size) 5 0 0 (MQ below (hm_Qv D w s.heap.size (fun w2 => ∃ f2 : Nat → Int32, w2 = hm_up w wd (.inl (K 0, 128, .inl (f2))) ∧ ∀ u : Nat, u < 4096 → mem f2 u = jb n (mem fa u) (mem fb u))) args s 0 0 (hm_A w s.heap.size)) w 0 [(0, .ref (q)), (1, .ref (qa)), (2, .ref (qb)), (3, .int (iI (n)))] []
  refine hv_iconst E dX2_become_0 rfl ?_
  refine hv_istore (lv2 := [(4, .int (iI (0))), (0, .ref (q)), (1, .ref (qa)), (2, .ref (qb)), (3, .int (iI (n)))]) E dX2_become_1 (by decide) rfl rfl ?_
  refine hv_mem (show w = hm_up w wd (.inl (K 0, 128, .inl (f))) from (hm_uid hn.2).symm) ?_
  have LP : ∀ (k : Nat) (j : Int) (g : Nat → Int32), (128 - j < (k : Int)) → (0 ≤ j) → (j ≤ 128) → (∀ i b : Nat, i < j.toNat → b < 32 → bt (g i) b = jb n (bt (fa i) b) (bt (fb i) b)) → (∀ i : Nat, j.toNat ≤ i → g i = f i) → hm_V p l e (hm_rm 1 0 0) s m args below meth c D (hm_A w s.heap.size) 5 0 0 (MQ below (hm_Qv D w s.heap.size (fun w2 => ∃ f2 : Nat → Int32, w2 = hm_up w wd (.inl (K 0, 128, .inl (f2))) ∧ ∀ u : Nat, u < 4096 → mem f2 u = jb n (mem fa u) (mem fb u))) args s 0 0 (hm_A w s.heap.size)) (hm_up w wd (.inl (K 0, 128, .inl (g)))) 3 [(4, .int (iI (j))), (0, .ref (q)), (1, .ref (qa)), (2, .ref (qb)), (3, .int (iI (n)))] [] := by
    intro k
    induction k with
    | zero =>
      intro j g hk g0 g1 hg hf
      exact absurd hk (by omega)
    | succ k ih =>
      intro j g hk g0 g1 hg hf
      have hn2 := hn.up g
      obtain ⟨ga, ea, eja⟩ : ∃ ga : Nat → Int32, nAt K (hm_up w wd (.inl (K 0, 128, .inl (g)))) qa wa ga ∧ ga j.toNat = fa j.toNat := by
        by_cases hw : wa = wd
        · rw [hw] at ha
          have hi := hn.inj ha
          rw [hw]
          exact ⟨g, ⟨by rw [hm_un (hn.ne2 ha)]; exact ha.1, hm_us⟩, by rw [hi]; exact hf _ (Nat.le_refl _)⟩
        · exact ⟨fa, ⟨by rw [hm_un (hn.ne2 ha)]; exact ha.1, by rw [hm_un hw]; exact ha.2⟩, rfl⟩
      obtain ⟨gb, eb, ejb⟩ : ∃ gb : Nat → Int32, nAt K (hm_up w wd (.inl (K 0, 128, .inl (g)))) qb wb gb ∧ gb j.toNat = fb j.toNat := by
        by_cases hw : wb = wd
        · rw [hw] at hb
          have hi := hn.inj hb
          rw [hw]
          exact ⟨g, ⟨by rw [hm_un (hn.ne2 hb)]; exact hb.1, hm_us⟩, by rw [hi]; exact hf _ (Nat.le_refl _)⟩
        · exact ⟨fb, ⟨by rw [hm_un (hn.ne2 hb)]; exact hb.1, by rw [hm_un hw]; exact hb.2⟩, rfl⟩
      refine hv_iload E dX2_become_3 0 rfl rfl ?_
      refine hv_sipush E dX2_become_5 (by decide +kernel) rfl ?_
      refine hv_icmp_ge E 42 dX2_become_8 (by decide) ⟨by omega, by omega⟩ ⟨by omega, by omega⟩ rfl (fun h3 => ?_) (fun h3 => ?_)
      · exact hv_vret E dX2_become_42 hr ⟨g, rfl, fun u hu => by
              have := hg (u / 32) (u % 32) (by omega) (by omega)
              exact this⟩
      · refine hv_aload_n E dX2_become_11 rfl 1 rfl rfl ?_
        refine hv_get (kf := 0) E dX2_become_12 (show vwCl[1]? = some (RX2, TX2, 1) from rfl) (by decide) gW_X2 gF_X2_9 rfl hn2.1 rfl rfl ?_
        refine hv_iload E dX2_become_15 0 rfl rfl ?_
        refine hv_aload_n E dX2_become_17 rfl 2 rfl rfl ?_
        refine hv_get (kf := 0) E dX2_become_18 (show vwCl[1]? = some (RX2, TX2, 1) from rfl) (by decide) gW_X2 gF_X2_9 rfl ea.1 rfl rfl ?_
        refine hv_iload E dX2_become_21 0 rfl rfl ?_
        refine hv_iald E dX2_become_23 ea.2 (by omega) (by omega) (by decide) rfl ?_
        refine hv_aload_n E dX2_become_24 rfl 3 rfl rfl ?_
        refine hv_get (kf := 0) E dX2_become_25 (show vwCl[1]? = some (RX2, TX2, 1) from rfl) (by decide) gW_X2 gF_X2_9 rfl eb.1 rfl rfl ?_
        refine hv_iload E dX2_become_28 0 rfl rfl ?_
        refine hv_iald E dX2_become_30 eb.2 (by omega) (by omega) (by decide) rfl ?_
        refine hv_iload_n E dX2_become_31 rfl 4 rfl rfl ?_
        refine hv_callSI (na := 3) (As := [.int (ga j.toNat), .int (gb j.toNat), .int (iI (n))]) (st := [.int (iI (j)), .ref (wd)]) E (c2_joined l D K (ga j.toNat) (gb j.toNat) n h0 h1) dX2_become_32 gL_X2_43 gS_X2_joined gC_X2_joined gZ_X2 (by decide +kernel) rfl ⟨Nat.le_of_ble_eq_true rfl, Nat.le_of_ble_eq_true rfl⟩ (Nat.le_of_ble_eq_true rfl) ⟨Nat.zero_le _, Nat.zero_le _⟩ rfl rfl (fun mk w2 hp => ?_)
        obtain ⟨hm, hw2⟩ := hp
        rw [hw2]
        show hm_V p l e (hm_rm 1 0 0) s m args below meth c D (hm_A w s.heap.size) 5 0 0 (MQ below (hm_Qv D w s.heap.size (fun w2 => ∃ f2 : Nat → Int32, w2 = hm_up w wd (.inl (K 0, 128, .inl (f2))) ∧ ∀ u : Nat, u < 4096 → mem f2 u = jb n (mem fa u) (mem fb u))) args s 0 0 (hm_A w s.heap.size)) (hm_up w wd (.inl (K 0, 128, .inl (g)))) 35 [(4, .int (iI (j))), (0, .ref (q)), (1, .ref (qa)), (2, .ref (qb)), (3, .int (iI (n)))] [.int (mk), .int (iI (j)), .ref (wd)]
        refine hv_iast E dX2_become_35 hn2.2 (by omega) (by omega) (by decide) rfl ?_
        refine hv_mem (show hm_up (hm_up w wd (.inl (K 0, 128, .inl (g)))) wd (.inl (K 0, 128, .inl (upd g j.toNat mk))) = hm_up w wd (.inl (K 0, 128, .inl (upd g j.toNat mk))) from hm_uu) ?_
        refine hv_iinc (lv2 := [(4, .int (iI (j + 1))), (0, .ref (q)), (1, .ref (qa)), (2, .ref (qb)), (3, .int (iI (n)))]) E dX2_become_36 0 rfl rfl (by decide) rfl rfl ?_
        refine hv_goto E 3 dX2_become_39 (by decide) ?_
        refine hv_sub (lv2 := [(4, .int (iI (j + 1))), (0, .ref (q)), (1, .ref (qa)), (2, .ref (qb)), (3, .int (iI (n)))]) [0, 1, 2, 3, 4] rfl ?_
        exact ih (j + 1) _ (by omega) (by omega) (by omega) (fun i b hi hb2 => by
              by_cases hij : i = j.toNat
              · subst hij
                rw [pk_us, hm b hb2, eja, ejb]
              · rw [pk_un hij]; exact hg i b (by omega) hb2) (fun i hi => by rw [pk_un (by omega)]; exact hf i (by omega))
  refine hv_sub (lv2 := [(4, .int (iI (0))), (0, .ref (q)), (1, .ref (qa)), (2, .ref (qb)), (3, .int (iI (n)))]) [0, 1, 2, 3, 4] rfl ?_
  exact LP 129 0 f (by omega) (by omega) (by omega) (fun i b hi _ => by simp at hi) (fun i _ => rfl)
set_option maxHeartbeats 4000000 in
set_option maxRecDepth 100000 in
theorem c2_copyFrom (l : Launch) (D : va_G) (K : Nat → ClassId) {w : hm_M} {q wd : Nat} {f : Nat → Int32} {qa wa : Nat} {fa : Nat → Int32} (hn : nAt K w q wd f) (ha : nAt K w qa wa fa) (hne : wa ≠ wd)  : hm_Cv l D K yX2_copyFrom cX2_copyFrom 3 0 [.ref (q), .ref (qa)] w 0 0 (fun w2 => ∃ f2 : Nat → Int32, w2 = hm_up w wd (.inl (K 0, 128, .inl (f2))) ∧ ∀ u : Nat, u < 4096 → mem f2 u = mem fa u) := by
  refine hm_enterV (by decide) (Nat.le_of_ble_eq_true rfl) ?_
  intro p e s m args below meth c E hr hnm
  show hm_V p l e (hm_rm 0 0 0) s m args below meth c D (hm_A w s.heap.size) 3 0 0 (MQ below (hm_Qv D w s.heap.size (fun w2 => ∃ f2 : Nat → Int32, w2 = hm_up w wd (.inl (K 0, 128, .inl (f2))) ∧ ∀ u : Nat, u < 4096 → mem f2 u = mem fa u)) args s 0 0 (hm_A w s.heap.size)) w 0 [(0, .ref (q)), (1, .ref (qa))] []
  refine hv_iconst E dX2_copyFrom_0 rfl ?_
  refine hv_istore_n (lv2 := [(2, .int (iI (0))), (0, .ref (q)), (1, .ref (qa))]) E dX2_copyFrom_1 rfl (by decide) rfl rfl ?_
  refine hv_mem (show w = hm_up w wd (.inl (K 0, 128, .inl (f))) from (hm_uid hn.2).symm) ?_
  have LP : ∀ (k : Nat) (j : Int) (g : Nat → Int32), (128 - j < (k : Int)) → (0 ≤ j) → (j ≤ 128) → (∀ i : Nat, i < j.toNat → g i = fa i) → hm_V p l e (hm_rm 0 0 0) s m args below meth c D (hm_A w s.heap.size) 3 0 0 (MQ below (hm_Qv D w s.heap.size (fun w2 => ∃ f2 : Nat → Int32, w2 = hm_up w wd (.inl (K 0, 128, .inl (f2))) ∧ ∀ u : Nat, u < 4096 → mem f2 u = mem fa u)) args s 0 0 (hm_A w s.heap.size)) (hm_up w wd (.inl (K 0, 128, .inl (g)))) 2 [(2, .int (iI (j))), (0, .ref (q)), (1, .ref (qa))] [] := by
    intro k
    induction k with
    | zero =>
      intro j g hk g0 g1 hg
      exact absurd hk (by omega)
    | succ k ih =>
      intro j g hk g0 g1 hg
      have hn2 := hn.up g
      have ea : nAt K (hm_up w wd (.inl (K 0, 128, .inl (g)))) qa wa fa := ⟨by rw [hm_un (hn.ne2 ha)]; exact ha.1, by rw [hm_un hne]; exact ha.2⟩
      refine hv_iload_n E dX2_copyFrom_2 rfl 0 rfl rfl ?_
      refine hv_sipush E dX2_copyFrom_3 (by decide +kernel) rfl ?_
      refine hv_icmp_ge E 27 dX2_copyFrom_6 (by decide) ⟨by omega, by omega⟩ ⟨by omega, by omega⟩ rfl (fun h3 => ?_) (fun h3 => ?_)
      · exact hv_vret E dX2_copyFrom_27 hr ⟨g, rfl, fun u hu => by unfold mem; rw [hg (u / 32) (by omega)]⟩
      · refine hv_aload_n E dX2_copyFrom_9 rfl 1 rfl rfl ?_
        refine hv_get (kf := 0) E dX2_copyFrom_10 (show vwCl[1]? = some (RX2, TX2, 1) from rfl) (by decide) gW_X2 gF_X2_9 rfl hn2.1 rfl rfl ?_
        refine hv_iload_n E dX2_copyFrom_13 rfl 0 rfl rfl ?_
        refine hv_aload_n E dX2_copyFrom_14 rfl 2 rfl rfl ?_
        refine hv_get (kf := 0) E dX2_copyFrom_15 (show vwCl[1]? = some (RX2, TX2, 1) from rfl) (by decide) gW_X2 gF_X2_9 rfl ea.1 rfl rfl ?_
        refine hv_iload_n E dX2_copyFrom_18 rfl 0 rfl rfl ?_
        refine hv_iald E dX2_copyFrom_19 ea.2 (by omega) (by omega) (by decide) rfl ?_
        refine hv_iast E dX2_copyFrom_20 hn2.2 (by omega) (by omega) (by decide) rfl ?_
        refine hv_mem (show hm_up (hm_up w wd (.inl (K 0, 128, .inl (g)))) wd (.inl (K 0, 128, .inl (upd g j.toNat (fa j.toNat)))) = hm_up w wd (.inl (K 0, 128, .inl (upd g j.toNat (fa j.toNat)))) from hm_uu) ?_
        refine hv_iinc (lv2 := [(2, .int (iI (j + 1))), (0, .ref (q)), (1, .ref (qa))]) E dX2_copyFrom_21 0 rfl rfl (by decide) rfl rfl ?_
        refine hv_goto E 2 dX2_copyFrom_24 (by decide) ?_
        refine hv_sub (lv2 := [(2, .int (iI (j + 1))), (0, .ref (q)), (1, .ref (qa))]) [0, 1, 2] rfl ?_
        exact ih (j + 1) _ (by omega) (by omega) (by omega) (fun i hi => by
              by_cases hij : i = j.toNat
              · subst hij; exact pk_us
              · rw [pk_un hij]; exact hg i (by omega))
  refine hv_sub (lv2 := [(2, .int (iI (0))), (0, .ref (q)), (1, .ref (qa))]) [0, 1, 2] rfl ?_
  exact LP 129 0 f (by omega) (by omega) (by omega) (fun i hi => by simp at hi)
set_option maxHeartbeats 4000000 in
set_option maxRecDepth 100000 in
theorem c2_clear (l : Launch) (D : va_G) (K : Nat → ClassId) {w : hm_M} {q wd : Nat} {f : Nat → Int32} (hn : nAt K w q wd f)  : hm_Cv l D K yX2_clear cX2_clear 2 0 [.ref (q)] w 0 0 (fun w2 => ∃ f2 : Nat → Int32, w2 = hm_up w wd (.inl (K 0, 128, .inl (f2))) ∧ ∀ u : Nat, u < 4096 → mem f2 u = false) := by
  refine hm_enterV (by decide) (Nat.le_of_ble_eq_true rfl) ?_
  intro p e s m args below meth c E hr hnm
  show hm_V p l e (hm_rm 0 0 0) s m args below meth c D (hm_A w s.heap.size) 2 0 0 (MQ below (hm_Qv D w s.heap.size (fun w2 => ∃ f2 : Nat → Int32, w2 = hm_up w wd (.inl (K 0, 128, .inl (f2))) ∧ ∀ u : Nat, u < 4096 → mem f2 u = false)) args s 0 0 (hm_A w s.heap.size)) w 0 [(0, .ref (q))] []
  refine hv_iconst E dX2_clear_0 rfl ?_
  refine hv_istore_n (lv2 := [(1, .int (iI (0))), (0, .ref (q))]) E dX2_clear_1 rfl (by decide) rfl rfl ?_
  refine hv_mem (show w = hm_up w wd (.inl (K 0, 128, .inl (f))) from (hm_uid hn.2).symm) ?_
  have LP : ∀ (k : Nat) (j : Int) (g : Nat → Int32), (128 - j < (k : Int)) → (0 ≤ j) → (j ≤ 128) → (∀ i : Nat, i < j.toNat → g i = 0) → hm_V p l e (hm_rm 0 0 0) s m args below meth c D (hm_A w s.heap.size) 2 0 0 (MQ below (hm_Qv D w s.heap.size (fun w2 => ∃ f2 : Nat → Int32, w2 = hm_up w wd (.inl (K 0, 128, .inl (f2))) ∧ ∀ u : Nat, u < 4096 → mem f2 u = false)) args s 0 0 (hm_A w s.heap.size)) (hm_up w wd (.inl (K 0, 128, .inl (g)))) 2 [(1, .int (iI (j))), (0, .ref (q))] [] := by
    intro k
    induction k with
    | zero =>
      intro j g hk g0 g1 hg
      exact absurd hk (by omega)
    | succ k ih =>
      intro j g hk g0 g1 hg
      have hn2 := hn.up g
      refine hv_iload_n E dX2_clear_2 rfl 0 rfl rfl ?_
      refine hv_sipush E dX2_clear_3 (by decide +kernel) rfl ?_
      refine hv_icmp_ge E 22 dX2_clear_6 (by decide) ⟨by omega, by omega⟩ ⟨by omega, by omega⟩ rfl (fun h3 => ?_) (fun h3 => ?_)
      · exact hv_vret E dX2_clear_22 hr ⟨g, rfl, fun u hu => by unfold mem; rw [hg (u / 32) (by omega), b_0]⟩
      · refine hv_aload_n E dX2_clear_9 rfl 1 rfl rfl ?_
        refine hv_get (kf := 0) E dX2_clear_10 (show vwCl[1]? = some (RX2, TX2, 1) from rfl) (by decide) gW_X2 gF_X2_9 rfl hn2.1 rfl rfl ?_
        refine hv_iload_n E dX2_clear_13 rfl 0 rfl rfl ?_
        refine hv_iconst E dX2_clear_14 rfl ?_
        refine hv_iast E dX2_clear_15 hn2.2 (by omega) (by omega) (by decide) rfl ?_
        refine hv_mem (show hm_up (hm_up w wd (.inl (K 0, 128, .inl (g)))) wd (.inl (K 0, 128, .inl (upd g j.toNat (iI 0)))) = hm_up w wd (.inl (K 0, 128, .inl (upd g j.toNat (iI 0)))) from hm_uu) ?_
        refine hv_iinc (lv2 := [(1, .int (iI (j + 1))), (0, .ref (q))]) E dX2_clear_16 0 rfl rfl (by decide) rfl rfl ?_
        refine hv_goto E 2 dX2_clear_19 (by decide) ?_
        refine hv_sub (lv2 := [(1, .int (iI (j + 1))), (0, .ref (q))]) [0, 1] rfl ?_
        exact ih (j + 1) _ (by omega) (by omega) (by omega) (fun i hi => by
              by_cases hij : i = j.toNat
              · subst hij; rw [pk_us]; exact iI_0.symm
              · rw [pk_un hij]; exact hg i (by omega))
  refine hv_sub (lv2 := [(1, .int (iI (0))), (0, .ref (q))]) [0, 1] rfl ?_
  exact LP 129 0 f (by omega) (by omega) (by omega) (fun i hi => by simp at hi)
