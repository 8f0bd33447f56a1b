theorem gp_next {S : Nat → Bool} {v z : Int} (v0 : -1 ≤ v) (hl : lst S (v + 1).toNat = (v + 1).toNat) (z1 : v + 1 ≤ z) (z4 : S z.toNat = true) (z5 : ∀ u, (v + 1).toNat ≤ u → u < z.toNat → S u = false) : gpP S (z + 1).toNat = gpP S (v + 1).toNat ++ nb (z - v).toNat (2 * wdt (z - v).toNat - 1) ∧ lst S (z + 1).toNat = (z + 1).toNat := by
  have e1 := lst_skip (S := S) (a := (v + 1).toNat) (b := z.toNat) (by omega) z5
  rw [show (z + 1).toNat = z.toNat + 1 by omega]
  simp only [gpP, lst]
  rw [z4, if_pos rfl, if_pos rfl, gpP_skip (S := S) (a := (v + 1).toNat) (b := z.toNat) (by omega) z5, e1, hl, show z.toNat + 1 - (v + 1).toNat = (z - v).toNat by omega]
  exact ⟨rfl, rfl⟩
theorem gp_end {S : Nat → Bool} {v : Int} (v0 : -1 ≤ v) (v1 : v < 4096) (h : ct S 0 4096 = ct S 0 (v + 1).toNat) : gpP S 4096 = gpP S (v + 1).toNat := gpP_skip (by omega) (fun u h1 h2 => by
  cases e1 : S u with
  | false => rfl
  | true =>
    have z1 := ct_step (S := S) (a := 0) h2 (by rw [Nat.zero_add]; exact e1)
    have z2 := ct_mono S 0 h1
    omega)
theorem gpP_mono (S : Nat → Bool) {a b : Nat} (h : a ≤ b) : (gpP S a).length ≤ (gpP S b).length := by
  obtain ⟨d, rfl⟩ : ∃ d, b = a + d := ⟨b - a, by omega⟩
  induction d with
  | zero => exact Nat.le_refl _
  | succ d ih =>
    have := ih (by omega)
    rw [← Nat.add_assoc]
    simp only [gpP, List.length_append]
    omega
set_option maxHeartbeats 4000000 in
set_option maxRecDepth 100000 in
theorem c1_widthOf (l : Launch) (D : va_G) (K : Nat → ClassId) {w : hm_M} (g : Int) (h0 : 1 ≤ g) (h1 : g ≤ 4096)  : hm_Ci l D K yX1_widthOf cX1_widthOf 2 .int 0 [.int (iI (g))] w 0 0 (fun r w2 => r = iI ((wdt g.toNat : Nat) : Int) ∧ w2 = w) := by
  refine hm_enterI (by decide) (Nat.le_of_ble_eq_true rfl) ?_
  intro p e s m args below meth c E hr hnm
  show hm_V p l e (hm_rm 0 0 0) s m args below meth c D (hm_A w s.heap.size) 2 0 0 (MQ below (hm_Qi D w s.heap.size (fun r w2 => r = iI ((wdt g.toNat : Nat) : Int) ∧ w2 = w)) args s 0 0 (hm_A w s.heap.size)) w 0 [(0, .int (iI (g)))] []
  refine hv_iconst E dX1_widthOf_0 rfl ?_
  refine hv_istore_n (lv2 := [(1, .int (iI (1))), (0, .int (iI (g)))]) E dX1_widthOf_1 rfl (by decide) rfl rfl ?_
  have LP : ∀ (k : Nat) (j : Nat), ((13 : Int) - j < (k : Int)) → (1 ≤ j) → (j ≤ 13) → (2 ^ (j - 1) ≤ g.toNat) → hm_V p l e (hm_rm 0 0 0) s m args below meth c D (hm_A w s.heap.size) 2 0 0 (MQ below (hm_Qi D w s.heap.size (fun r w2 => r = iI ((wdt g.toNat : Nat) : Int) ∧ w2 = w)) args s 0 0 (hm_A w s.heap.size)) w 2 [(1, .int (iI ((j : Int)))), (0, .int (iI (g)))] [] := by
    intro k
    induction k with
    | zero =>
      intro j hk g0 g1 hj
      exact absurd hk (by omega)
    | succ k ih =>
      intro j hk g0 g1 hj
      refine hv_iload_n E dX1_widthOf_2 rfl 0 rfl rfl ?_
      refine hv_bipush E dX1_widthOf_3 (by decide +kernel) rfl ?_
      refine hv_icmp_ge E 20 dX1_widthOf_5 (by decide) ⟨by omega, by omega⟩ ⟨by omega, by omega⟩ rfl (fun c1 => ?_) (fun c1 => ?_)
      · refine hv_iload_n E dX1_widthOf_20 rfl 0 rfl rfl ?_
        exact hv_iret E dX1_widthOf_21 hr ⟨by rw [← wdt_uq g0 hj (by rw [show j = 13 by omega]; omega)], rfl⟩
      · obtain ⟨DQ, hDQ⟩ : ∃ y, y = g.toNat / 2 ^ j := ⟨_, rfl⟩
        refine hv_iload_n E dX1_widthOf_8 rfl 1 rfl rfl ?_
        refine hv_iload_n E dX1_widthOf_9 rfl 0 rfl rfl ?_
        refine hv_ishrR E dX1_widthOf_10 rfl rfl ?_
        refine hv_topi (show (iI (g)) >>> ((iI ((j : Int))) &&& 31) = iI ((DQ : Int)) from (by rw [hDQ]; exact iI_shrN (by omega) (by omega) j (by omega))) ?_
        have hdv : DQ ≤ g.toNat := by rw [hDQ]; exact Nat.div_le_self _ _
        have hp : 0 < 2 ^ j := Nat.two_pow_pos j
        refine hv_if_eq E 20 dX1_widthOf_11 (by decide) ⟨by omega, by omega⟩ rfl (fun c2 => ?_) (fun c2 => ?_)
        · refine hv_iload_n E dX1_widthOf_20 rfl 0 rfl rfl ?_
          exact hv_iret E dX1_widthOf_21 hr ⟨by rw [← wdt_uq g0 hj (by
                  rcases Nat.lt_or_ge g.toNat (2 ^ j) with q | q
                  · exact q
                  · have := Nat.div_pos q hp; rw [← hDQ] at this; omega)], rfl⟩
        · refine hv_iinc (lv2 := [(1, .int (iI (((j : Int)) + 1))), (0, .int (iI (g)))]) E dX1_widthOf_14 0 rfl rfl (by decide) rfl rfl ?_
          refine hv_goto E 2 dX1_widthOf_17 (by decide) ?_
          show hm_V p l e (hm_rm 0 0 0) s m args below meth c D (hm_A w s.heap.size) 2 0 0 (MQ below (hm_Qi D w s.heap.size (fun r w2 => r = iI ((wdt g.toNat : Nat) : Int) ∧ w2 = w)) args s 0 0 (hm_A w s.heap.size)) w 2 [(1, .int (iI (((j + 1 : Nat) : Int)))), (0, .int (iI (g)))] []
          refine hv_sub (lv2 := [(1, .int (iI (((j + 1 : Nat) : Int)))), (0, .int (iI (g)))]) [0, 1] rfl ?_
          exact ih (j + 1) (by omega) (by omega) (by omega) (by
                rw [Nat.add_sub_cancel]
                rcases Nat.lt_or_ge g.toNat (2 ^ j) with q | q
                · exact absurd (by rw [hDQ, Nat.div_eq_of_lt q]; rfl) c2
                · exact q)
  show hm_V p l e (hm_rm 0 0 0) s m args below meth c D (hm_A w s.heap.size) 2 0 0 (MQ below (hm_Qi D w s.heap.size (fun r w2 => r = iI ((wdt g.toNat : Nat) : Int) ∧ w2 = w)) args s 0 0 (hm_A w s.heap.size)) w 2 [(1, .int (iI (((1 : Nat) : Int)))), (0, .int (iI (g)))] []
  refine hv_sub (lv2 := [(1, .int (iI (((1 : Nat) : Int)))), (0, .int (iI (g)))]) [0, 1] rfl ?_
  exact LP 13 1 (by omega) (by omega) (by omega) (by simp; omega)
set_option maxHeartbeats 4000000 in
set_option maxRecDepth 100000 in
theorem c1_bitsFor (l : Launch) (D : va_G) (K : Nat → ClassId) {w : hm_M} {a qn wn : Nat} {f : Nat → Int32} (hn : nAt K w qn wn f)  : hm_Ci l D K yX1_bitsFor cX1_bitsFor 7 .int 3 [.ref (a), .ref (qn)] w 0 0 (fun r w2 => r = iI ((cdG (mem f)).length : Nat) ∧ w2 = w) := by
  refine hm_enterI (by decide) (Nat.le_of_ble_eq_true rfl) ?_
  intro p e s m args below meth c E hr hnm
  show hm_V p l e (hm_rm 3 0 0) s m args below meth c D (hm_A w s.heap.size) 7 0 0 (MQ below (hm_Qi D w s.heap.size (fun r w2 => r = iI ((cdG (mem f)).length : Nat) ∧ w2 = w)) args s 0 0 (hm_A w s.heap.size)) w 0 [(0, .ref (a)), (1, .ref (qn))] []
  obtain ⟨CN, hCN⟩ : ∃ z, z = ct (mem f) 0 4096 := ⟨_, rfl⟩
  have hc := ct_le (mem f) 0 4096
  rw [← hCN] at hc
  have hle := gpP_le (mem f) 4096
  have hll := lst_le (mem f) 4096
  obtain ⟨GP, hGP⟩ : ∃ z, z = gpP (mem f) 4096 := ⟨_, rfl⟩
  rw [← hGP] at hle
  have hcd : cdG (mem f) = nb CN 13 ++ GP := by unfold cdG; rw [← hCN, hGP]
  have hcl : (cdG (mem f)).length = 13 + GP.length := by rw [hcd, List.length_append, nb_length]
  refine hv_aload_n E dX1_bitsFor_0 rfl 1 rfl rfl ?_
  refine hv_callVI (na := 0) (As := []) (st := []) E (c2_amount l D K hn) dX1_bitsFor_1 hn.1 (show vwCl[1]? = some (RX2, TX2, 1) from rfl) gL_X1_9 gV_X2_amount gI_X2_amount gC_X2_amount gZ_X2 (by decide +kernel) rfl ⟨Nat.le_of_ble_eq_true rfl, Nat.le_of_ble_eq_true rfl⟩ (Nat.le_of_ble_eq_true rfl) ⟨Nat.zero_le _, Nat.zero_le _⟩ rfl rfl (fun r w2 hp => ?_)
  rw [hp.1, hp.2, ← hCN]
  show hm_V p l e (hm_rm 3 0 0) s m args below meth c D (hm_A w s.heap.size) 7 0 0 (MQ below (hm_Qi D w s.heap.size (fun r w2 => r = iI ((cdG (mem f)).length : Nat) ∧ w2 = w)) args s 0 0 (hm_A w s.heap.size)) w 4 [(0, .ref (a)), (1, .ref (qn))] [.int (iI ((CN : Int)))]
  refine hv_istore_n (lv2 := [(2, .int (iI ((CN : Int)))), (0, .ref (a)), (1, .ref (qn))]) E dX1_bitsFor_4 rfl (by decide) rfl rfl ?_
  refine hv_bipush E dX1_bitsFor_5 (by decide +kernel) rfl ?_
  refine hv_istore_n (lv2 := [(3, .int (iI (13))), (2, .int (iI ((CN : Int)))), (0, .ref (a)), (1, .ref (qn))]) E dX1_bitsFor_7 rfl (by decide) rfl rfl ?_
  refine hv_iconst E dX1_bitsFor_8 rfl ?_
  refine hv_istore (lv2 := [(4, .int (iI ((-1)))), (3, .int (iI (13))), (2, .int (iI ((CN : Int)))), (0, .ref (a)), (1, .ref (qn))]) E dX1_bitsFor_9 (by decide) rfl rfl ?_
  refine hv_iconst E dX1_bitsFor_11 rfl ?_
  refine hv_istore (lv2 := [(5, .int (iI (0))), (4, .int (iI ((-1)))), (3, .int (iI (13))), (2, .int (iI ((CN : Int)))), (0, .ref (a)), (1, .ref (qn))]) E dX1_bitsFor_12 (by decide) rfl rfl ?_
  have LP : ∀ (k : Nat) (j v sm : Int), ((CN : Int) - j < (k : Int)) → (0 ≤ j) → (j ≤ CN) → (-1 ≤ v) → (v < 4096) → (lst (mem f) (v + 1).toNat = (v + 1).toNat) → (j = (ct (mem f) 0 (v + 1).toNat : Nat)) → (sm = 13 + ((gpP (mem f) (v + 1).toNat).length : Nat)) → hm_V p l e (hm_rm 3 0 0) s m args below meth c D (hm_A w s.heap.size) 7 0 0 (MQ below (hm_Qi D w s.heap.size (fun r w2 => r = iI ((cdG (mem f)).length : Nat) ∧ w2 = w)) args s 0 0 (hm_A w s.heap.size)) w 14 [(5, .int (iI (j))), (4, .int (iI (v))), (3, .int (iI (sm))), (2, .int (iI ((CN : Int)))), (0, .ref (a)), (1, .ref (qn))] [] := by
    intro k
    induction k with
    | zero =>
      intro j v sm hk g0 g1 v0 v1 hl hj hs
      exact absurd hk (by omega)
    | succ k ih =>
      intro j v sm hk g0 g1 v0 v1 hl hj hs
      have hm1 := ct_mono (mem f) 0 (show (v + 1).toNat ≤ 4096 by omega)
      rw [← hCN] at hm1
      refine hv_iload E dX1_bitsFor_14 0 rfl rfl ?_
      refine hv_iload_n E dX1_bitsFor_16 rfl 3 rfl rfl ?_
      refine hv_icmp_ge E 55 dX1_bitsFor_17 (by decide) ⟨by omega, by omega⟩ ⟨by omega, by omega⟩ rfl (fun c1 => ?_) (fun c1 => ?_)
      · have es : GP = gpP (mem f) (v + 1).toNat := by rw [hGP]; exact gp_end v0 v1 (by rw [← hCN]; omega)
        refine hv_iload_n E dX1_bitsFor_55 rfl 2 rfl rfl ?_
        exact hv_iret E dX1_bitsFor_56 hr ⟨by rw [hs, hcl, es]; rfl, rfl⟩
      · refine hv_aload_n E dX1_bitsFor_20 rfl 5 rfl rfl ?_
        refine hv_iload E dX1_bitsFor_21 1 rfl rfl ?_
        refine hv_iconst E dX1_bitsFor_23 rfl ?_
        refine hv_iadd E dX1_bitsFor_24 rfl ?_
        refine hv_callVI (na := 1) (As := [.int (iI (v + 1))]) (st := []) E (c2_leastFrom l D K (v + 1) (by omega) (by omega) hn) dX1_bitsFor_25 hn.1 (show vwCl[1]? = some (RX2, TX2, 1) from rfl) gL_X1_15 gV_X2_leastFrom gI_X2_leastFrom gC_X2_leastFrom gZ_X2 (by decide +kernel) rfl ⟨Nat.le_of_ble_eq_true rfl, Nat.le_of_ble_eq_true rfl⟩ (Nat.le_of_ble_eq_true rfl) ⟨Nat.zero_le _, Nat.zero_le _⟩ rfl rfl (fun r w2 hp => ?_)
        obtain ⟨⟨z, p1, p2⟩, p3⟩ := hp
        rw [p2, p3]
        show hm_V p l e (hm_rm 3 0 0) s m args below meth c D (hm_A w s.heap.size) 7 0 0 (MQ below (hm_Qi D w s.heap.size (fun r w2 => r = iI ((cdG (mem f)).length : Nat) ∧ w2 = w)) args s 0 0 (hm_A w s.heap.size)) w 28 [(5, .int (iI (j))), (4, .int (iI (v))), (3, .int (iI (sm))), (2, .int (iI ((CN : Int)))), (0, .ref (a)), (1, .ref (qn))] [.int (iI (z))]
        obtain ⟨z1, z2, z3, z4, z5, z6⟩ := next_ct (by omega) p1 (by omega) (by omega)
        obtain ⟨gz, lz⟩ := gp_next v0 hl z1 z4 z5
        obtain ⟨WD, hWD⟩ : ∃ y, y = wdt (z - v).toNat := ⟨_, rfl⟩
        have wd1 : 1 ≤ WD := by rw [hWD]; unfold wdt; omega
        have wd2 : WD ≤ 13 := by rw [hWD]; exact wdt_le (by omega) (show (z - v).toNat < 2 ^ 13 by omega)
        have wd3 : (z - v).toNat < 2 ^ WD := by rw [hWD]; exact (wdt_ok (by omega)).2
        rw [← hWD] at gz
        have gl : (gpP (mem f) (z + 1).toNat).length = (gpP (mem f) (v + 1).toNat).length + (2 * WD - 1) := by rw [gz, List.length_append, nb_length]
        refine hv_istore (lv2 := [(6, .int (iI (z))), (5, .int (iI (j))), (4, .int (iI (v))), (3, .int (iI (sm))), (2, .int (iI ((CN : Int)))), (0, .ref (a)), (1, .ref (qn))]) E dX1_bitsFor_28 (by decide) rfl rfl ?_
        refine hv_iload_n E dX1_bitsFor_30 rfl 3 rfl rfl ?_
        refine hv_iconst E dX1_bitsFor_31 rfl ?_
        refine hv_iload E dX1_bitsFor_32 0 rfl rfl ?_
        refine hv_iload E dX1_bitsFor_34 2 rfl rfl ?_
        refine hv_isub E dX1_bitsFor_36 rfl ?_
        refine hv_callSI (na := 1) (As := [.int (iI (z - v))]) (st := [.int (iI (2)), .int (iI (sm))]) E (c1_widthOf l D K (z - v) (by omega) (by omega)) dX1_bitsFor_37 gL_X1_19 gS_X1_widthOf gC_X1_widthOf gZ_X1 (by decide +kernel) rfl ⟨Nat.le_of_ble_eq_true rfl, Nat.le_of_ble_eq_true rfl⟩ (Nat.le_of_ble_eq_true rfl) ⟨Nat.zero_le _, Nat.zero_le _⟩ rfl rfl (fun r w2 hp => ?_)
        rw [hp.1, hp.2, ← hWD]
        show hm_V p l e (hm_rm 3 0 0) s m args below meth c D (hm_A w s.heap.size) 7 0 0 (MQ below (hm_Qi D w s.heap.size (fun r w2 => r = iI ((cdG (mem f)).length : Nat) ∧ w2 = w)) args s 0 0 (hm_A w s.heap.size)) w 40 [(6, .int (iI (z))), (5, .int (iI (j))), (4, .int (iI (v))), (3, .int (iI (sm))), (2, .int (iI ((CN : Int)))), (0, .ref (a)), (1, .ref (qn))] [.int (iI ((WD : Int))), .int (iI (2)), .int (iI (sm))]
        refine hv_imul E dX1_bitsFor_40 rfl ?_
        refine hv_iconst E dX1_bitsFor_41 rfl ?_
        refine hv_isub E dX1_bitsFor_42 rfl ?_
        refine hv_iadd E dX1_bitsFor_43 rfl ?_
        refine hv_istore_n (lv2 := [(3, .int (iI (sm + ((2 * ((WD : Int))) - 1)))), (6, .int (iI (z))), (5, .int (iI (j))), (4, .int (iI (v))), (2, .int (iI ((CN : Int)))), (0, .ref (a)), (1, .ref (qn))]) E dX1_bitsFor_44 rfl (by decide) rfl rfl ?_
        refine hv_iload E dX1_bitsFor_45 1 rfl rfl ?_
        refine hv_istore (lv2 := [(4, .int (iI (z))), (3, .int (iI (sm + ((2 * ((WD : Int))) - 1)))), (6, .int (iI (z))), (5, .int (iI (j))), (2, .int (iI ((CN : Int)))), (0, .ref (a)), (1, .ref (qn))]) E dX1_bitsFor_47 (by decide) rfl rfl ?_
        refine hv_iinc (lv2 := [(5, .int (iI (j + 1))), (4, .int (iI (z))), (3, .int (iI (sm + ((2 * ((WD : Int))) - 1)))), (6, .int (iI (z))), (2, .int (iI ((CN : Int)))), (0, .ref (a)), (1, .ref (qn))]) E dX1_bitsFor_49 3 rfl rfl (by decide) rfl rfl ?_
        refine hv_goto E 14 dX1_bitsFor_52 (by decide) ?_
        refine hv_sub (lv2 := [(5, .int (iI (j + 1))), (4, .int (iI (z))), (3, .int (iI (sm + ((2 * ((WD : Int))) - 1)))), (2, .int (iI ((CN : Int)))), (0, .ref (a)), (1, .ref (qn))]) [0, 1, 2, 4, 5, 6] rfl ?_
        exact ih (j + 1) z _ (by omega) (by omega) (by omega) (by omega) (by omega) lz (by rw [show (z + 1).toNat = z.toNat + 1 by omega, z6, hj]; rfl) (by rw [hs, gl]; omega)
  refine hv_sub (lv2 := [(5, .int (iI (0))), (4, .int (iI ((-1)))), (3, .int (iI (13))), (2, .int (iI ((CN : Int)))), (0, .ref (a)), (1, .ref (qn))]) [0, 1, 2, 3, 4, 5] rfl ?_
  exact LP (CN + 1) 0 (-1) 13 (by omega) (by omega) (by omega) (by omega) (by omega) rfl rfl rfl
set_option maxHeartbeats 4000000 in
set_option maxRecDepth 100000 in
theorem c1_tell (l : Launch) (D : va_G) (K : Nat → ClassId) {w : hm_M} {a qn wn t tw : Nat} {f tf : Nat → Int32} {P : Int} (hn : nAt K w qn wn f) (ht : tAt K w t tw tf 0 P)  : hm_Cv l D K yX1_tell cX1_tell 8 4 [.ref (a), .ref (qn), .ref (t)] w 0 0 (fun w2 => ∃ g : Nat → Int32, w2 = tM K w t tw g ((cdG (mem f)).length : Nat) P ∧ tX tf 0 g (cdG (mem f))) := by
  refine hm_enterV (by decide) (Nat.le_of_ble_eq_true rfl) ?_
  intro p e s m args below meth c E hr hnm
  show hm_V p l e (hm_rm 4 0 0) s m args below meth c D (hm_A w s.heap.size) 8 0 0 (MQ below (hm_Qv D w s.heap.size (fun w2 => ∃ g : Nat → Int32, w2 = tM K w t tw g ((cdG (mem f)).length : Nat) P ∧ tX tf 0 g (cdG (mem f)))) args s 0 0 (hm_A w s.heap.size)) w 0 [(0, .ref (a)), (1, .ref (qn)), (2, .ref (t))] []
  obtain ⟨CN, hCN⟩ : ∃ z, z = ct (mem f) 0 4096 := ⟨_, rfl⟩
  have hc := ct_le (mem f) 0 4096
  rw [← hCN] at hc
  have hle := gpP_le (mem f) 4096
  have hll := lst_le (mem f) 4096
  obtain ⟨GP, hGP⟩ : ∃ z, z = gpP (mem f) 4096 := ⟨_, rfl⟩
  rw [← hGP] at hle
  have hcd : cdG (mem f) = nb CN 13 ++ GP := by unfold cdG; rw [← hCN, hGP]
  have hcl : (cdG (mem f)).length = 13 + GP.length := by rw [hcd, List.length_append, nb_length]
  refine hv_aload_n E dX1_tell_0 rfl 1 rfl rfl ?_
  refine hv_callVI (na := 0) (As := []) (st := []) E (c2_amount l D K hn) dX1_tell_1 hn.1 (show vwCl[1]? = some (RX2, TX2, 1) from rfl) gL_X1_9 gV_X2_amount gI_X2_amount gC_X2_amount gZ_X2 (by decide +kernel) rfl ⟨Nat.le_of_ble_eq_true rfl, Nat.le_of_ble_eq_true rfl⟩ (Nat.le_of_ble_eq_true rfl) ⟨Nat.zero_le _, Nat.zero_le _⟩ rfl rfl (fun r w2 hp => ?_)
  rw [hp.1, hp.2, ← hCN]
  show hm_V p l e (hm_rm 4 0 0) s m args below meth c D (hm_A w s.heap.size) 8 0 0 (MQ below (hm_Qv D w s.heap.size (fun w2 => ∃ g : Nat → Int32, w2 = tM K w t tw g ((cdG (mem f)).length : Nat) P ∧ tX tf 0 g (cdG (mem f)))) args s 0 0 (hm_A w s.heap.size)) w 4 [(0, .ref (a)), (1, .ref (qn)), (2, .ref (t))] [.int (iI ((CN : Int)))]
  refine hv_istore_n (lv2 := [(3, .int (iI ((CN : Int)))), (0, .ref (a)), (1, .ref (qn)), (2, .ref (t))]) E dX1_tell_4 rfl (by decide) rfl rfl ?_
  refine hv_aload_n E dX1_tell_5 rfl 3 rfl rfl ?_
  refine hv_iload_n E dX1_tell_6 rfl 0 rfl rfl ?_
  refine hv_bipush E dX1_tell_7 (by decide +kernel) rfl ?_
  refine hv_callVV (na := 2) (As := [.int (iI ((CN : Int))), .int (iI (13))]) (st := []) E (c4_append l D K (iI (CN : Int)) 13 (by omega) (by omega) (by omega) ht (by omega) (by omega)) dX1_tell_9 ht.1 (show vwCl[3]? = some (RX4, TX4, 3) from rfl) gL_X1_24 gV_X4_append gI_X4_append gC_X4_append gZ_X4 (by decide +kernel) rfl ⟨Nat.le_of_ble_eq_true rfl, Nat.le_of_ble_eq_true rfl⟩ (Nat.le_of_ble_eq_true rfl) ⟨Nat.zero_le _, Nat.zero_le _⟩ rfl rfl (fun w2 hp => ?_)
  obtain ⟨g1, e2, hf2, hf3⟩ := hp
  rw [e2]
  show hm_V p l e (hm_rm 4 0 0) s m args below meth c D (hm_A w s.heap.size) 8 0 0 (MQ below (hm_Qv D w s.heap.size (fun w2 => ∃ g : Nat → Int32, w2 = tM K w t tw g ((cdG (mem f)).length : Nat) P ∧ tX tf 0 g (cdG (mem f)))) args s 0 0 (hm_A w s.heap.size)) (tM K w t tw g1 (0 + 13) P) 12 [(3, .int (iI ((CN : Int)))), (0, .ref (a)), (1, .ref (qn)), (2, .ref (t))] []
  have hq := tX.nb (f := tf) (g := g1) (z := (CN : Int)) (n := 13) (by omega) (by omega) (by omega) (by omega) (by omega) hf2 hf3
  rw [Int.toNat_natCast] at hq
  have hq1 : tX tf 0 g1 (nb CN 13 ++ gpP (mem f) 0) := by simpa [gpP] using hq
  refine hv_iconst E dX1_tell_12 rfl ?_
  refine hv_istore (lv2 := [(4, .int (iI ((-1)))), (3, .int (iI ((CN : Int)))), (0, .ref (a)), (1, .ref (qn)), (2, .ref (t))]) E dX1_tell_13 (by decide) rfl rfl ?_
  refine hv_iconst E dX1_tell_15 rfl ?_
  refine hv_istore (lv2 := [(5, .int (iI (0))), (4, .int (iI ((-1)))), (3, .int (iI ((CN : Int)))), (0, .ref (a)), (1, .ref (qn)), (2, .ref (t))]) E dX1_tell_16 (by decide) rfl rfl ?_
  refine hv_mem (show tM K w t tw g1 (0 + 13) P = tM K w t tw g1 (13 + ((gpP (mem f) ((-1 : Int) + 1).toNat).length : Nat)) P from (by rw [show (0 : Int) + 13 = 13 + ((gpP (mem f) ((-1 : Int) + 1).toNat).length : Nat) by simp [gpP]])) ?_
  have LP : ∀ (k : Nat) (j v : Int) (g : Nat → Int32), ((CN : Int) - j < (k : Int)) → (0 ≤ j) → (j ≤ CN) → (-1 ≤ v) → (v < 4096) → (lst (mem f) (v + 1).toNat = (v + 1).toNat) → (j = (ct (mem f) 0 (v + 1).toNat : Nat)) → (tX tf 0 g (nb CN 13 ++ gpP (mem f) (v + 1).toNat)) → hm_V p l e (hm_rm 4 0 0) s m args below meth c D (hm_A w s.heap.size) 8 0 0 (MQ below (hm_Qv D w s.heap.size (fun w2 => ∃ g : Nat → Int32, w2 = tM K w t tw g ((cdG (mem f)).length : Nat) P ∧ tX tf 0 g (cdG (mem f)))) args s 0 0 (hm_A w s.heap.size)) (tM K w t tw g (13 + ((gpP (mem f) (v + 1).toNat).length : Nat)) P) 18 [(5, .int (iI (j))), (4, .int (iI (v))), (3, .int (iI ((CN : Int)))), (0, .ref (a)), (1, .ref (qn)), (2, .ref (t))] [] := by
    intro k
    induction k with
    | zero =>
      intro j v g hk g0 g1 v0 v1 hl hj hx
      exact absurd hk (by omega)
    | succ k ih =>
      intro j v g hk g0 g1 v0 v1 hl hj hx
      have hT : tAt K (tM K w t tw g (13 + ((gpP (mem f) (v + 1).toNat).length : Nat)) P) t tw g (13 + ((gpP (mem f) (v + 1).toNat).length : Nat)) P := tAt_tM ht.ne
      have hN : nAt K (tM K w t tw g (13 + ((gpP (mem f) (v + 1).toNat).length : Nat)) P) qn wn f := hn.tm ht
      have hm1 := ct_mono (mem f) 0 (show (v + 1).toNat ≤ 4096 by omega)
      rw [← hCN] at hm1
      have hmg := gpP_mono (mem f) (show (v + 1).toNat ≤ 4096 by omega)
      rw [← hGP] at hmg
      refine hv_iload E dX1_tell_18 0 rfl rfl ?_
      refine hv_iload_n E dX1_tell_20 rfl 2 rfl rfl ?_
      refine hv_icmp_ge E 74 dX1_tell_21 (by decide) ⟨by omega, by omega⟩ ⟨by omega, by omega⟩ rfl (fun c1 => ?_) (fun c1 => ?_)
      · have es : GP = gpP (mem f) (v + 1).toNat := by rw [hGP]; exact gp_end v0 v1 (by rw [← hCN]; omega)
        exact hv_vret E dX1_tell_74 hr ⟨g, by rw [hcl, es]; rfl, by rw [hcd, es]; exact hx⟩
      · refine hv_aload_n E dX1_tell_24 rfl 4 rfl rfl ?_
        refine hv_iload E dX1_tell_25 1 rfl rfl ?_
        refine hv_iconst E dX1_tell_27 rfl ?_
        refine hv_iadd E dX1_tell_28 rfl ?_
        refine hv_callVI (na := 1) (As := [.int (iI (v + 1))]) (st := []) E (c2_leastFrom l D K (v + 1) (by omega) (by omega) hN) dX1_tell_29 hN.1 (show vwCl[1]? = some (RX2, TX2, 1) from rfl) gL_X1_15 gV_X2_leastFrom gI_X2_leastFrom gC_X2_leastFrom gZ_X2 (by decide +kernel) rfl ⟨Nat.le_of_ble_eq_true rfl, Nat.le_of_ble_eq_true rfl⟩ (Nat.le_of_ble_eq_true rfl) ⟨Nat.zero_le _, Nat.zero_le _⟩ rfl rfl (fun r w2 hp => ?_)
        obtain ⟨⟨z, p1, p2⟩, p3⟩ := hp
        rw [p2, p3]
        show hm_V p l e (hm_rm 4 0 0) s m args below meth c D (hm_A w s.heap.size) 8 0 0 (MQ below (hm_Qv D w s.heap.size (fun w2 => ∃ g : Nat → Int32, w2 = tM K w t tw g ((cdG (mem f)).length : Nat) P ∧ tX tf 0 g (cdG (mem f)))) args s 0 0 (hm_A w s.heap.size)) (tM K w t tw g (13 + ((gpP (mem f) (v + 1).toNat).length : Nat)) P) 32 [(5, .int (iI (j))), (4, .int (iI (v))), (3, .int (iI ((CN : Int)))), (0, .ref (a)), (1, .ref (qn)), (2, .ref (t))] [.int (iI (z))]
        obtain ⟨z1, z2, z3, z4, z5, z6⟩ := next_ct (by omega) p1 (by omega) (by omega)
        obtain ⟨gz, lz⟩ := gp_next v0 hl z1 z4 z5
        obtain ⟨WD, hWD⟩ : ∃ y, y = wdt (z - v).toNat := ⟨_, rfl⟩
        have wd1 : 1 ≤ WD := by rw [hWD]; unfold wdt; omega
        have wd2 : WD ≤ 13 := by rw [hWD]; exact wdt_le (by omega) (show (z - v).toNat < 2 ^ 13 by omega)
        have wd3 : (z - v).toNat < 2 ^ WD := by rw [hWD]; exact (wdt_ok (by omega)).2
        rw [← hWD] at gz
        have gl : (gpP (mem f) (z + 1).toNat).length = (gpP (mem f) (v + 1).toNat).length + (2 * WD - 1) := by rw [gz, List.length_append, nb_length]
        have hmz := gpP_mono (mem f) (show (z + 1).toNat ≤ 4096 by omega)
        rw [← hGP] at hmz
        refine hv_istore (lv2 := [(6, .int (iI (z))), (5, .int (iI (j))), (4, .int (iI (v))), (3, .int (iI ((CN : Int)))), (0, .ref (a)), (1, .ref (qn)), (2, .ref (t))]) E dX1_tell_32 (by decide) rfl rfl ?_
        refine hv_iload E dX1_tell_34 0 rfl rfl ?_
        refine hv_iload E dX1_tell_36 2 rfl rfl ?_
        refine hv_isub E dX1_tell_38 rfl ?_
        refine hv_callSI (na := 1) (As := [.int (iI (z - v))]) (st := []) E (c1_widthOf l D K (z - v) (by omega) (by omega)) dX1_tell_39 gL_X1_19 gS_X1_widthOf gC_X1_widthOf gZ_X1 (by decide +kernel) rfl ⟨Nat.le_of_ble_eq_true rfl, Nat.le_of_ble_eq_true rfl⟩ (Nat.le_of_ble_eq_true rfl) ⟨Nat.zero_le _, Nat.zero_le _⟩ rfl rfl (fun r w2 hp => ?_)
        rw [hp.1, hp.2, ← hWD]
        show hm_V p l e (hm_rm 4 0 0) s m args below meth c D (hm_A w s.heap.size) 8 0 0 (MQ below (hm_Qv D w s.heap.size (fun w2 => ∃ g : Nat → Int32, w2 = tM K w t tw g ((cdG (mem f)).length : Nat) P ∧ tX tf 0 g (cdG (mem f)))) args s 0 0 (hm_A w s.heap.size)) (tM K w t tw g (13 + ((gpP (mem f) (v + 1).toNat).length : Nat)) P) 42 [(6, .int (iI (z))), (5, .int (iI (j))), (4, .int (iI (v))), (3, .int (iI ((CN : Int)))), (0, .ref (a)), (1, .ref (qn)), (2, .ref (t))] [.int (iI ((WD : Int)))]
        refine hv_istore (lv2 := [(7, .int (iI ((WD : Int)))), (6, .int (iI (z))), (5, .int (iI (j))), (4, .int (iI (v))), (3, .int (iI ((CN : Int)))), (0, .ref (a)), (1, .ref (qn)), (2, .ref (t))]) E dX1_tell_42 (by decide) rfl rfl ?_
        refine hv_aload_n E dX1_tell_44 rfl 7 rfl rfl ?_
        refine hv_iconst E dX1_tell_45 rfl ?_
        refine hv_iload E dX1_tell_46 0 rfl rfl ?_
        refine hv_iconst E dX1_tell_48 rfl ?_
        refine hv_isub E dX1_tell_49 rfl ?_
        refine hv_callVV (na := 2) (As := [.int (iI (0)), .int (iI (((WD : Int)) - 1))]) (st := []) E (c4_append l D K (iI (0)) ((WD : Int) - 1) (by omega) (by omega) (by omega) hT (by omega) (by omega)) dX1_tell_50 hT.1 (show vwCl[3]? = some (RX4, TX4, 3) from rfl) gL_X1_24 gV_X4_append gI_X4_append gC_X4_append gZ_X4 (by decide +kernel) rfl ⟨Nat.le_of_ble_eq_true rfl, Nat.le_of_ble_eq_true rfl⟩ (Nat.le_of_ble_eq_true rfl) ⟨Nat.zero_le _, Nat.zero_le _⟩ rfl rfl (fun w2 hp => ?_)
        obtain ⟨g2, e2, hf2, hf3⟩ := hp
        rw [tM_tM ht.ne] at e2
        rw [e2]
        show hm_V p l e (hm_rm 4 0 0) s m args below meth c D (hm_A w s.heap.size) 8 0 0 (MQ below (hm_Qv D w s.heap.size (fun w2 => ∃ g : Nat → Int32, w2 = tM K w t tw g ((cdG (mem f)).length : Nat) P ∧ tX tf 0 g (cdG (mem f)))) args s 0 0 (hm_A w s.heap.size)) (tM K w t tw g2 ((13 + ((gpP (mem f) (v + 1).toNat).length : Nat)) + ((WD : Int) - 1)) P) 53 [(7, .int (iI ((WD : Int)))), (6, .int (iI (z))), (5, .int (iI (j))), (4, .int (iI (v))), (3, .int (iI ((CN : Int)))), (0, .ref (a)), (1, .ref (qn)), (2, .ref (t))] []
        have hq := tX.nb (f := g) (g := g2) (z := 0) (n := (WD : Int) - 1) (by omega) (by omega) (by omega) (by omega) (by omega) hf2 hf3
        have hqa := hq
        have hT : tAt K (tM K w t tw g2 ((13 + ((gpP (mem f) (v + 1).toNat).length : Nat)) + ((WD : Int) - 1)) P) t tw g2 ((13 + ((gpP (mem f) (v + 1).toNat).length : Nat)) + ((WD : Int) - 1)) P := tAt_tM ht.ne
        refine hv_aload_n E dX1_tell_53 rfl 7 rfl rfl ?_
        refine hv_iload E dX1_tell_54 1 rfl rfl ?_
        refine hv_iload E dX1_tell_56 3 rfl rfl ?_
        refine hv_isub E dX1_tell_58 rfl ?_
        refine hv_iload E dX1_tell_59 0 rfl rfl ?_
        refine hv_callVV (na := 2) (As := [.int (iI (z - v)), .int (iI ((WD : Int)))]) (st := []) E (c4_append l D K (iI (z - v)) ((WD : Int)) (by omega) (by omega) (by omega) hT (by omega) (by omega)) dX1_tell_61 hT.1 (show vwCl[3]? = some (RX4, TX4, 3) from rfl) gL_X1_24 gV_X4_append gI_X4_append gC_X4_append gZ_X4 (by decide +kernel) rfl ⟨Nat.le_of_ble_eq_true rfl, Nat.le_of_ble_eq_true rfl⟩ (Nat.le_of_ble_eq_true rfl) ⟨Nat.zero_le _, Nat.zero_le _⟩ rfl rfl (fun w2 hp => ?_)
        obtain ⟨g3, e2, hf2, hf3⟩ := hp
        rw [tM_tM ht.ne] at e2
        rw [e2]
        rw [show ((13 + ((gpP (mem f) (v + 1).toNat).length : Nat)) + ((WD : Int) - 1)) + ((WD : Int)) = 13 + ((gpP (mem f) (z + 1).toNat).length : Nat) from (by omega)]
        show hm_V p l e (hm_rm 4 0 0) s m args below meth c D (hm_A w s.heap.size) 8 0 0 (MQ below (hm_Qv D w s.heap.size (fun w2 => ∃ g : Nat → Int32, w2 = tM K w t tw g ((cdG (mem f)).length : Nat) P ∧ tX tf 0 g (cdG (mem f)))) args s 0 0 (hm_A w s.heap.size)) (tM K w t tw g3 (13 + ((gpP (mem f) (z + 1).toNat).length : Nat)) P) 64 [(7, .int (iI ((WD : Int)))), (6, .int (iI (z))), (5, .int (iI (j))), (4, .int (iI (v))), (3, .int (iI ((CN : Int)))), (0, .ref (a)), (1, .ref (qn)), (2, .ref (t))] []
        have hq := tX.nb (f := g2) (g := g3) (z := z - v) (n := (WD : Int)) (by omega) (by omega) (by omega) (by omega) (by omega) hf2 hf3
        refine hv_iload E dX1_tell_64 1 rfl rfl ?_
        refine hv_istore (lv2 := [(4, .int (iI (z))), (7, .int (iI ((WD : Int)))), (6, .int (iI (z))), (5, .int (iI (j))), (3, .int (iI ((CN : Int)))), (0, .ref (a)), (1, .ref (qn)), (2, .ref (t))]) E dX1_tell_66 (by decide) rfl rfl ?_
        refine hv_iinc (lv2 := [(5, .int (iI (j + 1))), (4, .int (iI (z))), (7, .int (iI ((WD : Int)))), (6, .int (iI (z))), (3, .int (iI ((CN : Int)))), (0, .ref (a)), (1, .ref (qn)), (2, .ref (t))]) E dX1_tell_68 3 rfl rfl (by decide) rfl rfl ?_
        refine hv_goto E 18 dX1_tell_71 (by decide) ?_
        refine hv_sub (lv2 := [(5, .int (iI (j + 1))), (4, .int (iI (z))), (3, .int (iI ((CN : Int)))), (0, .ref (a)), (1, .ref (qn)), (2, .ref (t))]) [0, 1, 4, 5, 6, 7] rfl ?_
        exact ih (j + 1) z g3 (by omega) (by omega) (by omega) (by omega) (by omega) lz (by rw [show (z + 1).toNat = z.toNat + 1 by omega, z6, hj]; rfl) (by
              rw [gz, show 2 * WD - 1 = WD + (WD - 1) by omega, nb_zero _ _ _ wd3, ← List.append_assoc, ← List.append_assoc]
              refine (hx.app (h := g2) (d := nb 0 (WD - 1)) (by omega) ?_).app (by omega) ?_
              · rw [List.length_append, nb_length, show (0 : Int) + ((13 + (gpP (mem f) (v + 1).toNat).length : Nat) : Int) = 13 + ((gpP (mem f) (v + 1).toNat).length : Nat) by omega]
                rw [show ((WD : Int) - 1).toNat = WD - 1 by omega] at hqa
                exact hqa
              · rw [List.length_append, List.length_append, nb_length, nb_length, show (0 : Int) + ((13 + (gpP (mem f) (v + 1).toNat).length + (WD - 1) : Nat) : Int) = 13 + ((gpP (mem f) (v + 1).toNat).length : Nat) + ((WD : Int) - 1) by omega]
                rw [Int.toNat_natCast] at hq
                exact hq)
  refine hv_sub (lv2 := [(5, .int (iI (0))), (4, .int (iI ((-1)))), (3, .int (iI ((CN : Int)))), (0, .ref (a)), (1, .ref (qn)), (2, .ref (t))]) [0, 1, 2, 3, 4, 5] rfl ?_
  exact LP (CN + 1) 0 (-1) g1 (by omega) (by omega) (by omega) (by omega) (by omega) rfl rfl hq1
