set_option maxHeartbeats 4000000 in
set_option maxRecDepth 100000 in
theorem c7_takeParts (l : Launch) (D : va_G) (K : Nat → ClassId) {w : hm_M} {q ia ta : Nat} {I T : Nat → Bool} {b md td : Int} {ag : Bool} (hU0 : ∀ u, u < 4096 → mS I 8 u = false) (hm : mAt K w q ia ta I T b md td ag ((0 : Nat) : Int)) (hb0 : 0 ≤ b) (hb1 : b ≤ 8210)  : hm_Cv l D K yX7_takeParts cX7_takeParts 7 3 [.ref (q)] w 0 0 (fun w2 => ∃ (J : Nat → Bool) (P2 : Nat), w2 = mM K w q ia ta J T b md td ag ((P2 : Nat) : Int) ∧ (∀ i, i < 32768 → J i = I i) ∧ ∀ S, isC (tB T b) b (cdP S) → ∀ u, u < 4096 → mS J 8 u = S u) := by
  refine hm_enterV (by decide) (Nat.le_of_ble_eq_true rfl) ?_
  intro p e s m args below meth c E hr hnm
  show hm_V p l e (hm_rm 3 0 0) s m args below meth c D (hm_A w s.heap.size) 7 0 0 (MQ below (hm_Qv D w s.heap.size (fun w2 => ∃ (J : Nat → Bool) (P2 : Nat), w2 = mM K w q ia ta J T b md td ag ((P2 : Nat) : Int) ∧ (∀ i, i < 32768 → J i = I i) ∧ ∀ S, isC (tB T b) b (cdP S) → ∀ u, u < 4096 → mS J 8 u = S u)) args s 0 0 (hm_A w s.heap.size)) w 0 [(0, .ref (q))] []
  refine hv_mem (show w = mM K w q ia ta I T b md td ag ((0 : Nat) : Int) from mM_id hm) ?_
  have hM : mAt K (mM K w q ia ta I T b md td ag ((0 : Nat) : Int)) q ia ta I T b md td ag ((0 : Nat) : Int) := mAt_mM hm.n1 hm.n2 hm.n3
  refine hv_aload_n E dX7_takeParts_0 rfl 0 rfl rfl ?_
  refine hv_bipush E dX7_takeParts_1 (by decide +kernel) rfl ?_
  refine hv_callVI (na := 1) (As := [.int (iI (13))]) (st := []) E (c7_takeNumber l D K (P0 := 0) (13) (by omega) (by omega) (by omega) hM hb0 hb1) dX7_takeParts_3 hM.1 (show vwCl[6]? = some (RX7, TX7, 7) from rfl) gL_X7_119 gV_X7_takeNumber gI_X7_takeNumber gC_X7_takeNumber gZ_X7 (by decide +kernel) rfl ⟨Nat.le_of_ble_eq_true rfl, Nat.le_of_ble_eq_true rfl⟩ (Nat.le_of_ble_eq_true rfl) ⟨Nat.zero_le _, Nat.zero_le _⟩ rfl rfl (fun r w2 hp => ?_)
  rw [mM_mM hm.n1 hm.n2 hm.n3, show (13 : Int).toNat = 13 by omega] at hp
  obtain ⟨NN, hNN⟩ : ∃ zz, zz = bv (tB T b) (0) (13) := ⟨_, rfl⟩
  have hNNb := bv_lt (tB T b) (0) (13)
  rw [← hNN] at hp hNNb
  rw [hp.1, hp.2]
  show hm_V p l e (hm_rm 3 0 0) s m args below meth c D (hm_A w s.heap.size) 7 0 0 (MQ below (hm_Qv D w s.heap.size (fun w2 => ∃ (J : Nat → Bool) (P2 : Nat), w2 = mM K w q ia ta J T b md td ag ((P2 : Nat) : Int) ∧ (∀ i, i < 32768 → J i = I i) ∧ ∀ S, isC (tB T b) b (cdP S) → ∀ u, u < 4096 → mS J 8 u = S u)) args s 0 0 (hm_A w s.heap.size)) (mM K w q ia ta I T b md td ag ((0 + 13 : Nat) : Int)) 6 [(0, .ref (q))] [.int (iI ((NN : Int)))]
  clear hM
  rw [show 0 + 13 = 13 from rfl]
  show hm_V p l e (hm_rm 3 0 0) s m args below meth c D (hm_A w s.heap.size) 7 0 0 (MQ below (hm_Qv D w s.heap.size (fun w2 => ∃ (J : Nat → Bool) (P2 : Nat), w2 = mM K w q ia ta J T b md td ag ((P2 : Nat) : Int) ∧ (∀ i, i < 32768 → J i = I i) ∧ ∀ S, isC (tB T b) b (cdP S) → ∀ u, u < 4096 → mS J 8 u = S u)) args s 0 0 (hm_A w s.heap.size)) (mM K w q ia ta I T b md td ag ((13 : Nat) : Int)) 6 [(0, .ref (q))] [.int (iI ((NN : Int)))]
  have hM : mAt K (mM K w q ia ta I T b md td ag ((13 : Nat) : Int)) q ia ta I T b md td ag ((13 : Nat) : Int) := mAt_mM hm.n1 hm.n2 hm.n3
  refine hv_istore_n (lv2 := [(1, .int (iI ((NN : Int)))), (0, .ref (q))]) E dX7_takeParts_6 rfl (by decide) rfl rfl ?_
  refine hv_iload_n E dX7_takeParts_7 rfl 0 rfl rfl ?_
  refine hv_if_eq E 18 dX7_takeParts_8 (by decide) ⟨by omega, by omega⟩ rfl (fun c1 => ?_) (fun c1 => ?_)
  · exact hv_vret E dX7_takeParts_18 hr ⟨I, _, rfl, fun _ _ => rfl, fun S hS u hu => (by
        have h1 := (cdP_n hS).1
        have h2 := ct_none (S := S) (a := 0) (j := 0) (n := 4096) (by rw [← h1, ← hNN]; omega) (Nat.zero_le u) hu
        rw [Nat.zero_add] at h2
        rw [hU0 u hu, h2])⟩
  · refine hv_iload_n E dX7_takeParts_11 rfl 0 rfl rfl ?_
    refine hv_sipush E dX7_takeParts_12 (by decide +kernel) rfl ?_
    refine hv_icmp_le E 19 dX7_takeParts_15 (by decide) ⟨by omega, by omega⟩ ⟨by omega, by omega⟩ rfl (fun c2 => ?_) (fun c2 => ?_)
    · refine hv_iload_n E dX7_takeParts_19 rfl 0 rfl rfl ?_
      refine hv_callSI (na := 1) (As := [.int (iI ((NN : Int)))]) (st := []) E (c7_lowOf l D K (NN : Int) (by omega) (by omega)) dX7_takeParts_20 gL_X7_91 gS_X7_lowOf gC_X7_lowOf gZ_X7 (by decide +kernel) rfl ⟨Nat.le_of_ble_eq_true rfl, Nat.le_of_ble_eq_true rfl⟩ (Nat.le_of_ble_eq_true rfl) ⟨Nat.zero_le _, Nat.zero_le _⟩ rfl rfl (fun r w2 hp => ?_)
      rw [Int.toNat_natCast] at hp
      obtain ⟨lo, hlw⟩ : ∃ z, z = lw NN := ⟨_, rfl⟩
      rw [← hlw] at hp
      rw [hp.1, hp.2]
      show hm_V p l e (hm_rm 3 0 0) s m args below meth c D (hm_A w s.heap.size) 7 0 0 (MQ below (hm_Qv D w s.heap.size (fun w2 => ∃ (J : Nat → Bool) (P2 : Nat), w2 = mM K w q ia ta J T b md td ag ((P2 : Nat) : Int) ∧ (∀ i, i < 32768 → J i = I i) ∧ ∀ S, isC (tB T b) b (cdP S) → ∀ u, u < 4096 → mS J 8 u = S u)) args s 0 0 (hm_A w s.heap.size)) (mM K w q ia ta I T b md td ag ((13 : Nat) : Int)) 23 [(1, .int (iI ((NN : Int)))), (0, .ref (q))] [.int (iI ((lo : Int)))]
      have hlo12 : lo ≤ 12 := by rw [hlw]; exact lw_12 (by omega) (by omega)
      have hn1 : 1 ≤ NN := by omega
      refine hv_istore_n (lv2 := [(2, .int (iI ((lo : Int)))), (1, .int (iI ((NN : Int)))), (0, .ref (q))]) E dX7_takeParts_23 rfl (by decide) rfl rfl ?_
      refine hv_aload_n E dX7_takeParts_24 rfl 2 rfl rfl ?_
      refine hv_get (kf := 6) E dX7_takeParts_25 (show vwCl[6]? = some (RX7, TX7, 7) from rfl) (by decide) gW_X7 gF_X7_102 rfl hM.1 rfl rfl ?_
      refine hv_istore_n (lv2 := [(3, .int (iI (((13 : Nat) : Int)))), (2, .int (iI ((lo : Int)))), (1, .int (iI ((NN : Int)))), (0, .ref (q))]) E dX7_takeParts_28 rfl (by decide) rfl rfl ?_
      refine hv_iload_n E dX7_takeParts_29 rfl 0 rfl rfl ?_
      refine hv_iload_n E dX7_takeParts_30 rfl 2 rfl rfl ?_
      refine hv_iload_n E dX7_takeParts_31 rfl 1 rfl rfl ?_
      refine hv_imul E dX7_takeParts_32 rfl ?_
      obtain ⟨NL, hNL⟩ : ∃ z, z = NN * lo := ⟨_, rfl⟩
      refine hv_topi (show iI (((NN : Int)) * ((lo : Int))) = iI (((NL : Nat) : Int)) from (by rw [hNL]; push_cast; rfl)) ?_
      have hNLb : NL ≤ 4096 * 12 := by rw [hNL]; exact Nat.mul_le_mul (by omega) hlo12
      refine hv_iadd E dX7_takeParts_33 rfl ?_
      refine hv_istore (lv2 := [(4, .int (iI ((((13 : Nat) : Int)) + (((NL : Nat) : Int))))), (3, .int (iI (((13 : Nat) : Int)))), (2, .int (iI ((lo : Int)))), (1, .int (iI ((NN : Int)))), (0, .ref (q))]) E dX7_takeParts_34 (by decide) rfl rfl ?_
      refine hv_iconst E dX7_takeParts_36 rfl ?_
      refine hv_istore (lv2 := [(5, .int (iI (0))), (4, .int (iI ((((13 : Nat) : Int)) + (((NL : Nat) : Int))))), (3, .int (iI (((13 : Nat) : Int)))), (2, .int (iI ((lo : Int)))), (1, .int (iI ((NN : Int)))), (0, .ref (q))]) E dX7_takeParts_37 (by decide) rfl rfl ?_
      refine hv_iconst E dX7_takeParts_39 rfl ?_
      refine hv_istore (lv2 := [(6, .int (iI (0))), (5, .int (iI (0))), (4, .int (iI ((((13 : Nat) : Int)) + (((NL : Nat) : Int))))), (3, .int (iI (((13 : Nat) : Int)))), (2, .int (iI ((lo : Int)))), (1, .int (iI ((NN : Int)))), (0, .ref (q))]) E dX7_takeParts_40 (by decide) rfl rfl ?_
      rw [show ((13 : Nat) : Int) + (NL : Int) = ((13 + NL + 0 + 0 : Nat) : Int) by omega]
      show hm_V p l e (hm_rm 3 0 0) s m args below meth c D (hm_A w s.heap.size) 7 0 0 (MQ below (hm_Qv D w s.heap.size (fun w2 => ∃ (J : Nat → Bool) (P2 : Nat), w2 = mM K w q ia ta J T b md td ag ((P2 : Nat) : Int) ∧ (∀ i, i < 32768 → J i = I i) ∧ ∀ S, isC (tB T b) b (cdP S) → ∀ u, u < 4096 → mS J 8 u = S u)) args s 0 0 (hm_A w s.heap.size)) (mM K w q ia ta I T b md td ag ((13 : Nat) : Int)) 42 [(6, .int (iI (((0 : Nat) : Int)))), (5, .int (iI (((0 : Nat) : Int)))), (4, .int (iI (((13 + NL + 0 + 0 : Nat) : Int)))), (3, .int (iI (((13 : Nat) : Int)))), (2, .int (iI ((lo : Int)))), (1, .int (iI ((NN : Int)))), (0, .ref (q))] []
      clear hM
      have LP : ∀ (k : Nat) (kk h P : Nat) (J : Nat → Bool), ((66000 : Int) - ((13 + NL + kk + h : Nat) : Int) < (k : Int)) → (kk ≤ NN) → (13 + NL + kk + h ≤ 66000) → (P ≤ 66000) → (∀ i, i < 32768 → J i = I i) → (∀ S, isC (tB T b) b (cdP S) → qI S lo h kk ∧ ∀ u, u < 4096 → mS J 8 u = fk S kk u) → hm_V p l e (hm_rm 3 0 0) s m args below meth c D (hm_A w s.heap.size) 7 0 0 (MQ below (hm_Qv D w s.heap.size (fun w2 => ∃ (J : Nat → Bool) (P2 : Nat), w2 = mM K w q ia ta J T b md td ag ((P2 : Nat) : Int) ∧ (∀ i, i < 32768 → J i = I i) ∧ ∀ S, isC (tB T b) b (cdP S) → ∀ u, u < 4096 → mS J 8 u = S u)) args s 0 0 (hm_A w s.heap.size)) (mM K w q ia ta J T b md td ag ((P : Nat) : Int)) 42 [(6, .int (iI ((kk : Int)))), (5, .int (iI ((h : Int)))), (4, .int (iI (((13 + NL + kk + h : Nat) : Int)))), (3, .int (iI (((13 : Nat) : Int)))), (2, .int (iI ((lo : Int)))), (1, .int (iI ((NN : Int)))), (0, .ref (q))] [] := by
        intro k
        induction k with
        | zero =>
          intro kk h P J hk k1 hh hP2 hlo hE
          exact absurd hk (by omega)
        | succ k ih =>
          intro kk h P J hk k1 hh hP2 hlo hE
          have hM : mAt K (mM K w q ia ta J T b md td ag ((P : Nat) : Int)) q ia ta J T b md td ag ((P : Nat) : Int) := mAt_mM hm.n1 hm.n2 hm.n3
          refine hv_iload E dX7_takeParts_42 0 rfl rfl ?_
          refine hv_iload_n E dX7_takeParts_44 rfl 5 rfl rfl ?_
          refine hv_icmp_ge E 106 dX7_takeParts_45 (by decide) ⟨by omega, by omega⟩ ⟨by omega, by omega⟩ rfl (fun c3 => ?_) (fun c3 => ?_)
          · exact hv_vret E dX7_takeParts_106 hr ⟨J, P, rfl, hlo, fun S hS u hu => (by
                obtain ⟨h1, h2⟩ := hE S hS
                have h3 := (cdP_n hS).1
                have h4 : kk = ct S 0 4096 := by
                  rw [← h3, ← hNN]
                  omega
                rw [h2 u hu, h4, fk_all hu])⟩
          · refine hv_iload E dX7_takeParts_48 2 rfl rfl ?_
            refine hv_aload_n E dX7_takeParts_50 rfl 6 rfl rfl ?_
            refine hv_get (kf := 2) E dX7_takeParts_51 (show vwCl[6]? = some (RX7, TX7, 7) from rfl) (by decide) gW_X7 gF_X7_70 rfl hM.1 rfl rfl ?_
            refine hv_icmp_ge E 106 dX7_takeParts_54 (by decide) ⟨by omega, by omega⟩ ⟨by omega, by omega⟩ rfl (fun c4 => ?_) (fun c4 => ?_)
            · exact hv_vret E dX7_takeParts_106 hr ⟨J, P, rfl, hlo, fun S hS u hu => (by
                  obtain ⟨h1, h2⟩ := hE S hS
                  have h3 := (cdP_n hS).1
                  have h4 : kk = ct S 0 4096 := by
                    rw [← h3, ← hNN]
                    exact qI_end hS hNN hn1 hlw h1 (by rw [← hNL]; exact c4)
                  rw [h2 u hu, h4, fk_all hu])⟩
            · have hlt : ((13 + NN * lo + kk + h : Nat) : Int) < b := by rw [← hNL]; exact c4
              refine hv_aload_n E dX7_takeParts_57 rfl 6 rfl rfl ?_
              refine hv_get (kf := 1) E dX7_takeParts_58 (show vwCl[6]? = some (RX7, TX7, 7) from rfl) (by decide) gW_X7 gF_X7_14 rfl hM.1 rfl rfl ?_
              refine hv_iload E dX7_takeParts_61 2 rfl rfl ?_
              refine hv_zald E dX7_takeParts_63 hM.2.2 (by omega) (by omega) (by decide) rfl ?_
              refine hv_if_eqB E 97 dX7_takeParts_64 (by decide) rfl (fun c5 => ?_) (fun c5 => ?_)
              · have hx : tB T b (13 + NN * lo + kk + h) = false := by unfold tB; rw [← hNL, show T (13 + NL + kk + h) = false from c5, Bool.and_false]
                refine hv_iinc (lv2 := [(5, .int (iI (((h : Int)) + 1))), (6, .int (iI ((kk : Int)))), (4, .int (iI (((13 + NL + kk + h : Nat) : Int)))), (3, .int (iI (((13 : Nat) : Int)))), (2, .int (iI ((lo : Int)))), (1, .int (iI ((NN : Int)))), (0, .ref (q))]) E dX7_takeParts_97 1 rfl rfl (by decide) rfl rfl ?_
                refine hv_iinc (lv2 := [(4, .int (iI ((((13 + NL + kk + h : Nat) : Int)) + 1))), (5, .int (iI (((h : Int)) + 1))), (6, .int (iI ((kk : Int)))), (3, .int (iI (((13 : Nat) : Int)))), (2, .int (iI ((lo : Int)))), (1, .int (iI ((NN : Int)))), (0, .ref (q))]) E dX7_takeParts_100 2 rfl rfl (by decide) rfl rfl ?_
                refine hv_goto E 42 dX7_takeParts_103 (by decide) ?_
                rw [show ((13 + NL + kk + h : Nat) : Int) + 1 = ((13 + NL + kk + (h + 1) : Nat) : Int) by omega]
                show hm_V p l e (hm_rm 3 0 0) s m args below meth c D (hm_A w s.heap.size) 7 0 0 (MQ below (hm_Qv D w s.heap.size (fun w2 => ∃ (J : Nat → Bool) (P2 : Nat), w2 = mM K w q ia ta J T b md td ag ((P2 : Nat) : Int) ∧ (∀ i, i < 32768 → J i = I i) ∧ ∀ S, isC (tB T b) b (cdP S) → ∀ u, u < 4096 → mS J 8 u = S u)) args s 0 0 (hm_A w s.heap.size)) (mM K w q ia ta J T b md td ag ((P : Nat) : Int)) 42 [(4, .int (iI (((13 + NL + kk + (h + 1) : Nat) : Int)))), (5, .int (iI (((h + 1 : Nat) : Int)))), (6, .int (iI ((kk : Int)))), (3, .int (iI (((13 : Nat) : Int)))), (2, .int (iI ((lo : Int)))), (1, .int (iI ((NN : Int)))), (0, .ref (q))] []
                refine hv_sub (lv2 := [(6, .int (iI ((kk : Int)))), (5, .int (iI (((h + 1 : Nat) : Int)))), (4, .int (iI (((13 + NL + kk + (h + 1) : Nat) : Int)))), (3, .int (iI (((13 : Nat) : Int)))), (2, .int (iI ((lo : Int)))), (1, .int (iI ((NN : Int)))), (0, .ref (q))]) [2, 1, 0, 3, 4, 5, 6] rfl ?_
                exact ih kk (h + 1) P J (by omega) (by omega) (by omega) hP2 hlo (fun S hS => ⟨qI_zero hS hNN hn1 hlw (hE S hS).1 hlt hx, (hE S hS).2⟩)
              · have hx : tB T b (13 + NN * lo + kk + h) = true := by unfold tB; rw [← hNL, show T (13 + NL + kk + h) = true from c5, decide_eq_true c4]; rfl
                refine hv_aload_n E dX7_takeParts_67 rfl 6 rfl rfl ?_
                refine hv_iload_n E dX7_takeParts_68 rfl 3 rfl rfl ?_
                refine hv_iload E dX7_takeParts_69 0 rfl rfl ?_
                refine hv_iload_n E dX7_takeParts_71 rfl 4 rfl rfl ?_
                refine hv_imul E dX7_takeParts_72 rfl ?_
                obtain ⟨KL, hKL⟩ : ∃ z, z = kk * lo := ⟨_, rfl⟩
                have hKLb : KL ≤ 4096 * 12 := by rw [hKL]; exact Nat.mul_le_mul (by omega) hlo12
                refine hv_topi (show iI (((kk : Int)) * ((lo : Int))) = iI (((KL : Nat) : Int)) from (by rw [hKL]; push_cast; rfl)) ?_
                refine hv_iadd E dX7_takeParts_73 rfl ?_
                rw [show ((13 : Nat) : Int) + (KL : Int) = ((13 + KL : Nat) : Int) by omega]
                show hm_V p l e (hm_rm 3 0 0) s m args below meth c D (hm_A w s.heap.size) 7 0 0 (MQ below (hm_Qv D w s.heap.size (fun w2 => ∃ (J : Nat → Bool) (P2 : Nat), w2 = mM K w q ia ta J T b md td ag ((P2 : Nat) : Int) ∧ (∀ i, i < 32768 → J i = I i) ∧ ∀ S, isC (tB T b) b (cdP S) → ∀ u, u < 4096 → mS J 8 u = S u)) args s 0 0 (hm_A w s.heap.size)) (mM K w q ia ta J T b md td ag ((P : Nat) : Int)) 74 [(6, .int (iI ((kk : Int)))), (5, .int (iI ((h : Int)))), (4, .int (iI (((13 + NL + kk + h : Nat) : Int)))), (3, .int (iI (((13 : Nat) : Int)))), (2, .int (iI ((lo : Int)))), (1, .int (iI ((NN : Int)))), (0, .ref (q))] [.int (iI (((13 + KL : Nat) : Int))), .ref (q)]
                refine hv_put (kf := 6) (ty0 := tyX7) E dX7_takeParts_74 (show vwCl[6]? = some (RX7, TX7, 7) from rfl) (by decide) gW_X7 tyX7_ok nmX7 gF_X7_102 rfl hM.1 rfl rfl rfl (Nat.le_of_ble_eq_true rfl) rfl ?_
                show hm_V p l e (hm_rm 3 0 0) s m args below meth c D (hm_A w s.heap.size) 7 0 0 (MQ below (hm_Qv D w s.heap.size (fun w2 => ∃ (J : Nat → Bool) (P2 : Nat), w2 = mM K w q ia ta J T b md td ag ((P2 : Nat) : Int) ∧ (∀ i, i < 32768 → J i = I i) ∧ ∀ S, isC (tB T b) b (cdP S) → ∀ u, u < 4096 → mS J 8 u = S u)) args s 0 0 (hm_A w s.heap.size)) (hm_up (mM K w q ia ta J T b md td ag ((P : Nat) : Int)) q (.inr (6, [.ref ia, .ref ta, .int (iI b), .int (iI md), .int (iI td), .int (bI ag), .int (iI (((13 + KL : Nat) : Int)))]))) 77 [(6, .int (iI ((kk : Int)))), (5, .int (iI ((h : Int)))), (4, .int (iI (((13 + NL + kk + h : Nat) : Int)))), (3, .int (iI (((13 : Nat) : Int)))), (2, .int (iI ((lo : Int)))), (1, .int (iI ((NN : Int)))), (0, .ref (q))] []
                refine hv_mem (show _ = mM K w q ia ta J T b md td ag ((13 + KL : Nat) : Int) from mM_O) ?_
                clear hM
                have hM : mAt K (mM K w q ia ta J T b md td ag ((13 + KL : Nat) : Int)) q ia ta J T b md td ag ((13 + KL : Nat) : Int) := mAt_mM hm.n1 hm.n2 hm.n3
                refine hv_aload_n E dX7_takeParts_77 rfl 6 rfl rfl ?_
                refine hv_iload E dX7_takeParts_78 1 rfl rfl ?_
                refine hv_iload_n E dX7_takeParts_80 rfl 4 rfl rfl ?_
                refine hv_ishlR E dX7_takeParts_81 rfl rfl ?_
                obtain ⟨HL, hHL⟩ : ∃ z, z = h * 2 ^ lo := ⟨_, rfl⟩
                have hpw : 2 ^ lo ≤ 2 ^ 12 := Nat.pow_le_pow_right (by omega) hlo12
                have hHLb : HL ≤ 8210 * 2 ^ 12 := by rw [hHL]; exact Nat.mul_le_mul (by omega) hpw
                refine hv_topi (show (iI ((h : Int))) <<< ((iI ((lo : Int))) &&& 31) = iI (((HL : Nat) : Int)) from (by
                      have h9 := iI_shlN (h : Int) (k := (lo : Int)) (by omega) (by omega)
                      rw [Int.toNat_natCast] at h9
                      rw [h9, hHL]; push_cast; rfl)) ?_
                refine hv_aload_n E dX7_takeParts_82 rfl 6 rfl rfl ?_
                refine hv_iload_n E dX7_takeParts_83 rfl 4 rfl rfl ?_
                refine hv_callVI (na := 1) (As := [.int (iI ((lo : Int)))]) (st := [.int (iI (((HL : Nat) : Int))), .ref (q)]) E (c7_takeNumber l D K (P0 := 13 + KL) ((lo : Int)) (by omega) (by omega) (by omega) hM hb0 hb1) dX7_takeParts_84 hM.1 (show vwCl[6]? = some (RX7, TX7, 7) from rfl) gL_X7_119 gV_X7_takeNumber gI_X7_takeNumber gC_X7_takeNumber gZ_X7 (by decide +kernel) rfl ⟨Nat.le_of_ble_eq_true rfl, Nat.le_of_ble_eq_true rfl⟩ (Nat.le_of_ble_eq_true rfl) ⟨Nat.zero_le _, Nat.zero_le _⟩ rfl rfl (fun r w2 hp => ?_)
                rw [mM_mM hm.n1 hm.n2 hm.n3, show ((lo : Int) : Int).toNat = lo by omega] at hp
                obtain ⟨B, hB⟩ : ∃ zz, zz = bv (tB T b) (13 + KL) (lo) := ⟨_, rfl⟩
                have hBb := bv_lt (tB T b) (13 + KL) (lo)
                rw [← hB] at hp hBb
                rw [hp.1, hp.2]
                show hm_V p l e (hm_rm 3 0 0) s m args below meth c D (hm_A w s.heap.size) 7 0 0 (MQ below (hm_Qv D w s.heap.size (fun w2 => ∃ (J : Nat → Bool) (P2 : Nat), w2 = mM K w q ia ta J T b md td ag ((P2 : Nat) : Int) ∧ (∀ i, i < 32768 → J i = I i) ∧ ∀ S, isC (tB T b) b (cdP S) → ∀ u, u < 4096 → mS J 8 u = S u)) args s 0 0 (hm_A w s.heap.size)) (mM K w q ia ta J T b md td ag ((13 + KL + lo : Nat) : Int)) 87 [(6, .int (iI ((kk : Int)))), (5, .int (iI ((h : Int)))), (4, .int (iI (((13 + NL + kk + h : Nat) : Int)))), (3, .int (iI (((13 : Nat) : Int)))), (2, .int (iI ((lo : Int)))), (1, .int (iI ((NN : Int)))), (0, .ref (q))] [.int (iI ((B : Int))), .int (iI (((HL : Nat) : Int))), .ref (q)]
                have hBb2 : B < 4096 := Nat.lt_of_lt_of_le hBb hpw
                clear hM
                have hM : mAt K (mM K w q ia ta J T b md td ag ((13 + KL + lo : Nat) : Int)) q ia ta J T b md td ag ((13 + KL + lo : Nat) : Int) := mAt_mM hm.n1 hm.n2 hm.n3
                have hv : h * 2 ^ lo + bv (tB T b) (13 + kk * lo) lo = HL + B := by rw [hHL, hB, hKL]
                refine hv_iadd E dX7_takeParts_87 rfl ?_
                refine hv_callVV (na := 1) (As := [.int (iI ((((HL : Nat) : Int)) + ((B : Int))))]) (st := []) E (c7_mark l D K ((HL : Int) + (B : Int)) ⟨by omega, by omega⟩ hM) dX7_takeParts_88 hM.1 (show vwCl[6]? = some (RX7, TX7, 7) from rfl) gL_X7_122 gV_X7_mark gI_X7_mark gC_X7_mark gZ_X7 (by decide +kernel) rfl ⟨Nat.le_of_ble_eq_true rfl, Nat.le_of_ble_eq_true rfl⟩ (Nat.le_of_ble_eq_true rfl) ⟨Nat.zero_le _, Nat.zero_le _⟩ rfl rfl (fun w2 hp => ?_)
                rw [mM_mM hm.n1 hm.n2 hm.n3] at hp
                obtain ⟨J2, hJ2⟩ : ∃ zz, zz = mk J ((HL : Int) + (B : Int)) := ⟨_, rfl⟩
                rw [← hJ2] at hp
                rw [hp]
                show hm_V p l e (hm_rm 3 0 0) s m args below meth c D (hm_A w s.heap.size) 7 0 0 (MQ below (hm_Qv D w s.heap.size (fun w2 => ∃ (J : Nat → Bool) (P2 : Nat), w2 = mM K w q ia ta J T b md td ag ((P2 : Nat) : Int) ∧ (∀ i, i < 32768 → J i = I i) ∧ ∀ S, isC (tB T b) b (cdP S) → ∀ u, u < 4096 → mS J 8 u = S u)) args s 0 0 (hm_A w s.heap.size)) (mM K w q ia ta J2 T b md td ag ((13 + KL + lo : Nat) : Int)) 91 [(6, .int (iI ((kk : Int)))), (5, .int (iI ((h : Int)))), (4, .int (iI (((13 + NL + kk + h : Nat) : Int)))), (3, .int (iI (((13 : Nat) : Int)))), (2, .int (iI ((lo : Int)))), (1, .int (iI ((NN : Int)))), (0, .ref (q))] []
                refine hv_iinc (lv2 := [(6, .int (iI (((kk : Int)) + 1))), (5, .int (iI ((h : Int)))), (4, .int (iI (((13 + NL + kk + h : Nat) : Int)))), (3, .int (iI (((13 : Nat) : Int)))), (2, .int (iI ((lo : Int)))), (1, .int (iI ((NN : Int)))), (0, .ref (q))]) E dX7_takeParts_91 0 rfl rfl (by decide) rfl rfl ?_
                refine hv_goto E 100 dX7_takeParts_94 (by decide) ?_
                refine hv_iinc (lv2 := [(4, .int (iI ((((13 + NL + kk + h : Nat) : Int)) + 1))), (6, .int (iI (((kk : Int)) + 1))), (5, .int (iI ((h : Int)))), (3, .int (iI (((13 : Nat) : Int)))), (2, .int (iI ((lo : Int)))), (1, .int (iI ((NN : Int)))), (0, .ref (q))]) E dX7_takeParts_100 2 rfl rfl (by decide) rfl rfl ?_
                refine hv_goto E 42 dX7_takeParts_103 (by decide) ?_
                rw [show ((13 + NL + kk + h : Nat) : Int) + 1 = ((13 + NL + (kk + 1) + h : Nat) : Int) by omega]
                show hm_V p l e (hm_rm 3 0 0) s m args below meth c D (hm_A w s.heap.size) 7 0 0 (MQ below (hm_Qv D w s.heap.size (fun w2 => ∃ (J : Nat → Bool) (P2 : Nat), w2 = mM K w q ia ta J T b md td ag ((P2 : Nat) : Int) ∧ (∀ i, i < 32768 → J i = I i) ∧ ∀ S, isC (tB T b) b (cdP S) → ∀ u, u < 4096 → mS J 8 u = S u)) args s 0 0 (hm_A w s.heap.size)) (mM K w q ia ta J2 T b md td ag ((13 + KL + lo : Nat) : Int)) 42 [(4, .int (iI (((13 + NL + (kk + 1) + h : Nat) : Int)))), (6, .int (iI (((kk + 1 : Nat) : Int)))), (5, .int (iI ((h : Int)))), (3, .int (iI (((13 : Nat) : Int)))), (2, .int (iI ((lo : Int)))), (1, .int (iI ((NN : Int)))), (0, .ref (q))] []
                refine hv_sub (lv2 := [(6, .int (iI (((kk + 1 : Nat) : Int)))), (5, .int (iI ((h : Int)))), (4, .int (iI (((13 + NL + (kk + 1) + h : Nat) : Int)))), (3, .int (iI (((13 : Nat) : Int)))), (2, .int (iI ((lo : Int)))), (1, .int (iI ((NN : Int)))), (0, .ref (q))]) [1, 2, 0, 3, 4, 5, 6] rfl ?_
                exact ih (kk + 1) h (13 + KL + lo) J2 (by omega) (by omega) (by omega) (by omega) (fun i hi => by rw [hJ2, mk_lo hi]; exact hlo i hi) (fun S hS => (by
                      obtain ⟨s1, s2⟩ := hE S hS
                      obtain ⟨o1, o2, o3, o4, o5⟩ := qI_one hS hNN hn1 hlw s1 hlt hx
                      rw [hv] at o3 o4 o5
                      refine ⟨o1, fun u hu => ?_⟩
                      rw [hJ2, show (HL : Int) + (B : Int) = ((HL + B : Nat) : Int) by omega, mk_sp o3, s2 u hu, fk_one o4 o5]))
      refine hv_sub (lv2 := [(6, .int (iI (((0 : Nat) : Int)))), (5, .int (iI (((0 : Nat) : Int)))), (4, .int (iI (((13 + NL + 0 + 0 : Nat) : Int)))), (3, .int (iI (((13 : Nat) : Int)))), (2, .int (iI ((lo : Int)))), (1, .int (iI ((NN : Int)))), (0, .ref (q))]) [0, 1, 2, 3, 4, 5, 6] rfl ?_
      exact LP 66001 0 0 13 I (by omega) (by omega) (by omega) (by omega) (fun _ _ => rfl) (fun S _ => ⟨qI_0 S lo, fun u hu => by rw [hU0 u hu]; unfold fk; simp⟩)
    · exact hv_vret E dX7_takeParts_18 hr ⟨I, _, rfl, fun _ _ => rfl, fun S hS u hu => absurd hS (pI_big (by rw [← hNN]; omega) S)⟩
