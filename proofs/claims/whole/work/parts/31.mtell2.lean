theorem lo_mono (S : Nat → Bool) (l : Nat) {a b : Nat} (h : a ≤ b) : (loP S l a).length ≤ (loP S l b).length := by
  rw [loP_length, loP_length]; exact Nat.mul_le_mul_right _ (ct_mono S 0 h)
theorem hi_mono (S : Nat → Bool) (l : Nat) {a b : Nat} (h : a ≤ b) : (hiP S l a).length ≤ (hiP S l b).length := by
  rw [hiP_length, hiP_length]
  have h1 := ct_mono S 0 h
  have h2 : a / 2 ^ l ≤ b / 2 ^ l := Nat.div_le_div_right h
  omega
theorem tl2 (md b : Int) (st : tS) (c d : List Bool) : tl md b (tl md b st c) d = tl md b st (c ++ d) := (tl_app md b st c d).symm
theorem t1l (md b : Int) (st : tS) (c : List Bool) (y : Bool) : t1 md b (tl md b st c) y = tl md b st (c ++ [y]) := by rw [tl_app]; rfl
set_option maxHeartbeats 4000000 in
set_option maxRecDepth 100000 in
theorem c7_tellParts (l : Launch) (D : va_G) (K : Nat → ClassId) {w : hm_M} {q ia ta : Nat} {I : Nat → Bool} {b md pl : Int} (st : tS) (x : Int) (hx0 : 0 ≤ x) (hx1 : x ≤ 8) (hs0 : st.2.1 = 0) (hm : mAt K w q ia ta I st.1 b md st.2.1 st.2.2 pl) (hb0 : 0 ≤ b) (hb1 : b ≤ 8210) (hmd : 0 ≤ md ∧ md ≤ 2)  : hm_Cv l D K yX7_tellParts cX7_tellParts 5 2 [.ref (q), .int (iI (x))] w 0 0 (fun w2 => w2 = mB K w q ia ta I b md pl (tl md b st (cdP (mS I x)))) := by
  refine hm_enterV (by decide) (Nat.le_of_ble_eq_true rfl) ?_
  intro p e s m args below meth c E hr hnm
  show hm_V p l e (hm_rm 2 0 0) s m args below meth c D (hm_A w s.heap.size) 5 0 0 (MQ below (hm_Qv D w s.heap.size (fun w2 => w2 = mB K w q ia ta I b md pl (tl md b st (cdP (mS I x))))) args s 0 0 (hm_A w s.heap.size)) w 0 [(0, .ref (q)), (1, .int (iI (x)))] []
  obtain ⟨CN, hCN⟩ : ∃ z, z = ct (mS I x) 0 4096 := ⟨_, rfl⟩
  have hcn := ct_le (mS I x) 0 4096
  rw [← hCN] at hcn
  obtain ⟨CC, hCC⟩ : ∃ z, z = cdP (mS I x) := ⟨_, rfl⟩
  rw [← hCC]
  show hm_V p l e (hm_rm 2 0 0) s m args below meth c D (hm_A w s.heap.size) 5 0 0 (MQ below (hm_Qv D w s.heap.size (fun w2 => w2 = mB K w q ia ta I b md pl (tl md b st (CC)))) args s 0 0 (hm_A w s.heap.size)) w 0 [(0, .ref (q)), (1, .int (iI (x)))] []
  have hle := cdP_le (mS I x)
  rw [← hCC] at hle
  refine hv_mem (show w = mB K w q ia ta I b md pl (tl md b st []) from mM_id hm) ?_
  have hM : mAt K (mB K w q ia ta I b md pl (tl md b st ([]))) q ia ta I (tl md b st ([])).1 b md (tl md b st ([])).2.1 (tl md b st ([])).2.2 pl := mAt_mM hm.n1 hm.n2 hm.n3
  have hI : mI K (mB K w q ia ta I b md pl (tl md b st ([]))) q ia _ I := hM.i
  have htd := tl_td md b st ([])
  simp only [List.length_append, nb_length, List.length_cons, List.length_nil] at htd
  refine hv_aload_n E dX7_tellParts_0 rfl 0 rfl rfl ?_
  refine hv_iload_n E dX7_tellParts_1 rfl 1 rfl rfl ?_
  refine hv_iconst E dX7_tellParts_2 rfl ?_
  refine hv_sipush E dX7_tellParts_3 (by decide +kernel) rfl ?_
  refine hv_callVI (na := 3) (As := [.int (iI (x)), .int (iI (0)), .int (iI (4096))]) (st := []) E (c7_many l D K x 0 4096 (by omega) (by omega) (by omega) (by omega) (by omega) hI) dX7_tellParts_6 hI.1 (show vwCl[6]? = some (RX7, TX7, 7) from rfl) gL_X7_36 gV_X7_many gI_X7_many gC_X7_many gZ_X7 (by decide +kernel) rfl ⟨Nat.le_of_ble_eq_true rfl, Nat.le_of_ble_eq_true rfl⟩ (Nat.le_of_ble_eq_true rfl) ⟨Nat.zero_le _, Nat.zero_le _⟩ rfl rfl (fun r w2 hp => ?_)
  rw [hp.1, hp.2, show ct (mS I x) (0 : Int).toNat (4096 - 0 : Int).toNat = CN from hCN.symm]
  show hm_V p l e (hm_rm 2 0 0) s m args below meth c D (hm_A w s.heap.size) 5 0 0 (MQ below (hm_Qv D w s.heap.size (fun w2 => w2 = mB K w q ia ta I b md pl (tl md b st (CC)))) args s 0 0 (hm_A w s.heap.size)) (mB K w q ia ta I b md pl (tl md b st ([]))) 9 [(0, .ref (q)), (1, .int (iI (x)))] [.int (iI ((CN : Int)))]
  refine hv_istore_n (lv2 := [(2, .int (iI ((CN : Int)))), (0, .ref (q)), (1, .int (iI (x)))]) E dX7_tellParts_9 rfl (by decide) rfl rfl ?_
  refine hv_aload_n E dX7_tellParts_10 rfl 1 rfl rfl ?_
  refine hv_iload_n E dX7_tellParts_11 rfl 0 rfl rfl ?_
  refine hv_bipush E dX7_tellParts_12 (by decide +kernel) rfl ?_
  refine hv_callVV (na := 2) (As := [.int (iI ((CN : Int))), .int (iI (13))]) (st := []) E (c7_tellNumber l D K (tl md b st ([])) ((CN : Int)) (13) (by omega) (by omega) (by omega) (by omega) hM hb0 hb1 hmd (by omega) (by omega) (by omega)) dX7_tellParts_14 hM.1 (show vwCl[6]? = some (RX7, TX7, 7) from rfl) gL_X7_87 gV_X7_tellNumber gI_X7_tellNumber gC_X7_tellNumber gZ_X7 (by decide +kernel) rfl ⟨Nat.le_of_ble_eq_true rfl, Nat.le_of_ble_eq_true rfl⟩ (Nat.le_of_ble_eq_true rfl) ⟨Nat.zero_le _, Nat.zero_le _⟩ rfl rfl (fun w2 hp => ?_)
  rw [mB_mB hm.n1 hm.n2 hm.n3, tl2] at hp
  rw [hp]
  show hm_V p l e (hm_rm 2 0 0) s m args below meth c D (hm_A w s.heap.size) 5 0 0 (MQ below (hm_Qv D w s.heap.size (fun w2 => w2 = mB K w q ia ta I b md pl (tl md b st (CC)))) args s 0 0 (hm_A w s.heap.size)) (mB K w q ia ta I b md pl (tl md b st ([] ++ nb ((CN : Int) : Int).toNat (13 : Int).toNat))) 17 [(2, .int (iI ((CN : Int)))), (0, .ref (q)), (1, .int (iI (x)))] []
  rw [show [] ++ nb ((CN : Int) : Int).toNat (13 : Int).toNat = nb CN 13 from (by rw [List.nil_append, Int.toNat_natCast]; rfl)]
  show hm_V p l e (hm_rm 2 0 0) s m args below meth c D (hm_A w s.heap.size) 5 0 0 (MQ below (hm_Qv D w s.heap.size (fun w2 => w2 = mB K w q ia ta I b md pl (tl md b st (CC)))) args s 0 0 (hm_A w s.heap.size)) (mB K w q ia ta I b md pl (tl md b st (nb CN 13))) 17 [(2, .int (iI ((CN : Int)))), (0, .ref (q)), (1, .int (iI (x)))] []
  refine hv_iload_n E dX7_tellParts_17 rfl 0 rfl rfl ?_
  refine hv_if_ne E 22 dX7_tellParts_18 (by decide) ⟨by omega, by omega⟩ rfl (fun c1 => ?_) (fun c1 => ?_)
  · have hcc : CC = nb CN 13 ++ (loP (mS I x) (lw CN) 4096 ++ hiP (mS I x) (lw CN) 4096) := by rw [hCC]; unfold cdP; rw [← hCN, if_neg (by omega)]
    have hl12 := lw_12 (n := CN) (by omega) (by omega)
    refine hv_iload_n E dX7_tellParts_22 rfl 0 rfl rfl ?_
    refine hv_callSI (na := 1) (As := [.int (iI ((CN : Int)))]) (st := []) E (c7_lowOf l D K (CN : Int) (by omega) (by omega)) dX7_tellParts_23 gL_X7_91 gS_X7_lowOf gC_X7_lowOf gZ_X7 (by decide +kernel) rfl ⟨Nat.le_of_ble_eq_true rfl, Nat.le_of_ble_eq_true rfl⟩ (Nat.le_of_ble_eq_true rfl) ⟨Nat.zero_le _, Nat.zero_le _⟩ rfl rfl (fun r w2 hp => ?_)
    rw [Int.toNat_natCast] at hp
    obtain ⟨lo, hlo⟩ : ∃ z, z = lw CN := ⟨_, rfl⟩
    rw [← hlo] at hp hcc hl12
    rw [hp.1, hp.2]
    show hm_V p l e (hm_rm 2 0 0) s m args below meth c D (hm_A w s.heap.size) 5 0 0 (MQ below (hm_Qv D w s.heap.size (fun w2 => w2 = mB K w q ia ta I b md pl (tl md b st (CC)))) args s 0 0 (hm_A w s.heap.size)) (mB K w q ia ta I b md pl (tl md b st (nb CN 13))) 26 [(2, .int (iI ((CN : Int)))), (0, .ref (q)), (1, .int (iI (x)))] [.int (iI ((lo : Int)))]
    obtain ⟨LO, hLO⟩ : ∃ z, z = loP (mS I x) lo 4096 := ⟨_, rfl⟩
    obtain ⟨HI, hHI⟩ : ∃ z, z = hiP (mS I x) lo 4096 := ⟨_, rfl⟩
    rw [← hLO, ← hHI] at hcc
    have hcl : CC.length = 13 + (LO.length + HI.length) := by rw [hcc, List.length_append, List.length_append, nb_length]
    refine hv_istore_n (lv2 := [(3, .int (iI ((lo : Int)))), (2, .int (iI ((CN : Int)))), (0, .ref (q)), (1, .int (iI (x)))]) E dX7_tellParts_26 rfl (by decide) rfl rfl ?_
    refine hv_iconst E dX7_tellParts_27 rfl ?_
    refine hv_istore (lv2 := [(4, .int (iI (0))), (3, .int (iI ((lo : Int)))), (2, .int (iI ((CN : Int)))), (0, .ref (q)), (1, .int (iI (x)))]) E dX7_tellParts_28 (by decide) rfl rfl ?_
    rw [show nb CN 13 = nb CN 13 ++ loP (mS I x) lo (0 : Int).toNat from (by simp [loP])]
    show hm_V p l e (hm_rm 2 0 0) s m args below meth c D (hm_A w s.heap.size) 5 0 0 (MQ below (hm_Qv D w s.heap.size (fun w2 => w2 = mB K w q ia ta I b md pl (tl md b st (CC)))) args s 0 0 (hm_A w s.heap.size)) (mB K w q ia ta I b md pl (tl md b st (nb CN 13 ++ loP (mS I x) lo (0 : Int).toNat))) 30 [(4, .int (iI (0))), (3, .int (iI ((lo : Int)))), (2, .int (iI ((CN : Int)))), (0, .ref (q)), (1, .int (iI (x)))] []
    have LP : ∀ (k : Nat) (j : Int), (4096 - j < (k : Int)) → (0 ≤ j) → (j ≤ 4096) → hm_V p l e (hm_rm 2 0 0) s m args below meth c D (hm_A w s.heap.size) 5 0 0 (MQ below (hm_Qv D w s.heap.size (fun w2 => w2 = mB K w q ia ta I b md pl (tl md b st (CC)))) args s 0 0 (hm_A w s.heap.size)) (mB K w q ia ta I b md pl (tl md b st (nb CN 13 ++ loP (mS I x) lo j.toNat))) 30 [(4, .int (iI (j))), (3, .int (iI ((lo : Int)))), (2, .int (iI ((CN : Int)))), (0, .ref (q)), (1, .int (iI (x)))] [] := by
      intro k
      induction k with
      | zero =>
        intro j hk g0 g1
        exact absurd hk (by omega)
      | succ k ih =>
        intro j hk g0 g1
        have hM : mAt K (mB K w q ia ta I b md pl (tl md b st (nb CN 13 ++ loP (mS I x) lo j.toNat))) q ia ta I (tl md b st (nb CN 13 ++ loP (mS I x) lo j.toNat)).1 b md (tl md b st (nb CN 13 ++ loP (mS I x) lo j.toNat)).2.1 (tl md b st (nb CN 13 ++ loP (mS I x) lo j.toNat)).2.2 pl := mAt_mM hm.n1 hm.n2 hm.n3
        have hI : mI K (mB K w q ia ta I b md pl (tl md b st (nb CN 13 ++ loP (mS I x) lo j.toNat))) q ia _ I := hM.i
        have htd := tl_td md b st (nb CN 13 ++ loP (mS I x) lo j.toNat)
        simp only [List.length_append, nb_length, List.length_cons, List.length_nil] at htd
        have hm1 := lo_mono (mS I x) lo (show j.toNat ≤ 4096 by omega)
        rw [← hLO] at hm1
        refine hv_iload E dX7_tellParts_30 0 rfl rfl ?_
        refine hv_sipush E dX7_tellParts_32 (by decide +kernel) rfl ?_
        refine hv_icmp_ge E 61 dX7_tellParts_35 (by decide) ⟨by omega, by omega⟩ ⟨by omega, by omega⟩ rfl (fun c2 => ?_) (fun c2 => ?_)
        · rw [show j = 4096 by omega]
          show hm_V p l e (hm_rm 2 0 0) s m args below meth c D (hm_A w s.heap.size) 5 0 0 (MQ below (hm_Qv D w s.heap.size (fun w2 => w2 = mB K w q ia ta I b md pl (tl md b st (CC)))) args s 0 0 (hm_A w s.heap.size)) (mB K w q ia ta I b md pl (tl md b st (nb CN 13 ++ loP (mS I x) lo (4096 : Int).toNat))) 61 [(4, .int (iI (4096))), (3, .int (iI ((lo : Int)))), (2, .int (iI ((CN : Int)))), (0, .ref (q)), (1, .int (iI (x)))] []
          rw [show nb CN 13 ++ loP (mS I x) lo (4096 : Int).toNat = (nb CN 13 ++ LO) ++ hiP (mS I x) lo (0 : Int).toNat from (by rw [hLO]; simp [hiP])]
          show hm_V p l e (hm_rm 2 0 0) s m args below meth c D (hm_A w s.heap.size) 5 0 0 (MQ below (hm_Qv D w s.heap.size (fun w2 => w2 = mB K w q ia ta I b md pl (tl md b st (CC)))) args s 0 0 (hm_A w s.heap.size)) (mB K w q ia ta I b md pl (tl md b st ((nb CN 13 ++ LO) ++ hiP (mS I x) lo (0 : Int).toNat))) 61 [(4, .int (iI (4096))), (3, .int (iI ((lo : Int)))), (2, .int (iI ((CN : Int)))), (0, .ref (q)), (1, .int (iI (x)))] []
          refine hv_iconst E dX7_tellParts_61 rfl ?_
          refine hv_istore (lv2 := [(4, .int (iI (0))), (3, .int (iI ((lo : Int)))), (2, .int (iI ((CN : Int)))), (0, .ref (q)), (1, .int (iI (x)))]) E dX7_tellParts_62 (by decide) rfl rfl ?_
          have L2 : ∀ (k : Nat) (j : Int), (4096 - j < (k : Int)) → (0 ≤ j) → (j ≤ 4096) → hm_V p l e (hm_rm 2 0 0) s m args below meth c D (hm_A w s.heap.size) 5 0 0 (MQ below (hm_Qv D w s.heap.size (fun w2 => w2 = mB K w q ia ta I b md pl (tl md b st (CC)))) args s 0 0 (hm_A w s.heap.size)) (mB K w q ia ta I b md pl (tl md b st ((nb CN 13 ++ LO) ++ hiP (mS I x) lo j.toNat))) 64 [(4, .int (iI (j))), (3, .int (iI ((lo : Int)))), (2, .int (iI ((CN : Int)))), (0, .ref (q)), (1, .int (iI (x)))] [] := by
            intro k
            induction k with
            | zero =>
              intro j hk g0 g1
              exact absurd hk (by omega)
            | succ k ih =>
              intro j hk g0 g1
              have hM : mAt K (mB K w q ia ta I b md pl (tl md b st ((nb CN 13 ++ LO) ++ hiP (mS I x) lo j.toNat))) q ia ta I (tl md b st ((nb CN 13 ++ LO) ++ hiP (mS I x) lo j.toNat)).1 b md (tl md b st ((nb CN 13 ++ LO) ++ hiP (mS I x) lo j.toNat)).2.1 (tl md b st ((nb CN 13 ++ LO) ++ hiP (mS I x) lo j.toNat)).2.2 pl := mAt_mM hm.n1 hm.n2 hm.n3
              have hI : mI K (mB K w q ia ta I b md pl (tl md b st ((nb CN 13 ++ LO) ++ hiP (mS I x) lo j.toNat))) q ia _ I := hM.i
              have htd := tl_td md b st ((nb CN 13 ++ LO) ++ hiP (mS I x) lo j.toNat)
              simp only [List.length_append, nb_length, List.length_cons, List.length_nil] at htd
              have hm1 := hi_mono (mS I x) lo (show j.toNat ≤ 4096 by omega)
              rw [← hHI] at hm1
              refine hv_iload E dX7_tellParts_64 0 rfl rfl ?_
              refine hv_sipush E dX7_tellParts_66 (by decide +kernel) rfl ?_
              refine hv_icmp_ge E 111 dX7_tellParts_69 (by decide) ⟨by omega, by omega⟩ ⟨by omega, by omega⟩ rfl (fun c3 => ?_) (fun c3 => ?_)
              · exact hv_vret E dX7_tellParts_111 hr (by rw [hcc, show j.toNat = 4096 by omega, ← hHI, List.append_assoc])
              · have hm2 := hi_mono (mS I x) lo (show (j + 1).toNat ≤ 4096 by omega)
                rw [← hHI] at hm2
                have hps : hiP (mS I x) lo (j + 1).toNat = hiP (mS I x) lo j.toNat ++ ((if (mS I x) j.toNat then [true] else []) ++ (if j.toNat / 2 ^ lo = (j.toNat + 1) / 2 ^ lo then [] else [false])) := by rw [show (j + 1).toNat = j.toNat + 1 by omega]; rfl
                have hpl : (hiP (mS I x) lo (j + 1).toNat).length = (hiP (mS I x) lo j.toNat).length + ((if (mS I x) j.toNat then [true] else []) ++ (if j.toNat / 2 ^ lo = (j.toNat + 1) / 2 ^ lo then [] else [false])).length := by rw [hps, List.length_append]
                obtain ⟨D1, hD1⟩ : ∃ z, z = j.toNat / 2 ^ lo := ⟨_, rfl⟩
                obtain ⟨D2, hD2⟩ : ∃ z, z = (j.toNat + 1) / 2 ^ lo := ⟨_, rfl⟩
                rw [← hD1, ← hD2] at hps hpl
                have hd1 : D1 ≤ j.toNat := by rw [hD1]; exact Nat.div_le_self _ _
                have hd2 : D2 ≤ j.toNat + 1 := by rw [hD2]; exact Nat.div_le_self _ _
                refine hv_aload_n E dX7_tellParts_72 rfl 3 rfl rfl ?_
                refine hv_iload_n E dX7_tellParts_73 rfl 4 rfl rfl ?_
                refine hv_iload E dX7_tellParts_74 0 rfl rfl ?_
                refine hv_callVI (na := 2) (As := [.int (iI (x)), .int (iI (j))]) (st := []) E (c7_is l D K x j (by omega) (by omega) (by omega) (by omega) hI) dX7_tellParts_76 hI.1 (show vwCl[6]? = some (RX7, TX7, 7) from rfl) gL_X7_28 gV_X7_is gI_X7_is gC_X7_is gZ_X7 (by decide +kernel) rfl ⟨Nat.le_of_ble_eq_true rfl, Nat.le_of_ble_eq_true rfl⟩ (Nat.le_of_ble_eq_true rfl) ⟨Nat.zero_le _, Nat.zero_le _⟩ rfl rfl (fun r w2 hp => ?_)
                rw [hp.1, hp.2]
                show hm_V p l e (hm_rm 2 0 0) s m args below meth c D (hm_A w s.heap.size) 5 0 0 (MQ below (hm_Qv D w s.heap.size (fun w2 => w2 = mB K w q ia ta I b md pl (tl md b st (CC)))) args s 0 0 (hm_A w s.heap.size)) (mB K w q ia ta I b md pl (tl md b st ((nb CN 13 ++ LO) ++ hiP (mS I x) lo j.toNat))) 79 [(4, .int (iI (j))), (3, .int (iI ((lo : Int)))), (2, .int (iI ((CN : Int)))), (0, .ref (q)), (1, .int (iI (x)))] [.int (bI (mS I x (j).toNat))]
                refine hv_if_eqB E 87 dX7_tellParts_79 (by decide) rfl (fun c4 => ?_) (fun c4 => ?_)
                · refine hv_iload E dX7_tellParts_87 0 rfl rfl ?_
                  refine hv_iload_n E dX7_tellParts_89 rfl 1 rfl rfl ?_
                  refine hv_ishrR E dX7_tellParts_90 rfl rfl ?_
                  refine hv_topi (show (iI (j)) >>> ((iI ((lo : Int))) &&& 31) = iI ((D1 : Int)) from (by rw [hD1]; exact iI_shrN (by omega) (by omega) lo (by omega))) ?_
                  refine hv_iload E dX7_tellParts_91 0 rfl rfl ?_
                  refine hv_iconst E dX7_tellParts_93 rfl ?_
                  refine hv_iadd E dX7_tellParts_94 rfl ?_
                  refine hv_iload_n E dX7_tellParts_95 rfl 1 rfl rfl ?_
                  refine hv_ishrR E dX7_tellParts_96 rfl rfl ?_
                  refine hv_topi (show (iI (j + 1)) >>> ((iI ((lo : Int))) &&& 31) = iI ((D2 : Int)) from (by rw [hD2, show j.toNat + 1 = (j + 1).toNat by omega]; exact iI_shrN (by omega) (by omega) lo (by omega))) ?_
                  refine hv_icmp_eq E 105 dX7_tellParts_97 (by decide) ⟨by omega, by omega⟩ ⟨by omega, by omega⟩ rfl (fun c5 => ?_) (fun c5 => ?_)
                  · refine hv_iinc (lv2 := [(4, .int (iI (j + 1))), (3, .int (iI ((lo : Int)))), (2, .int (iI ((CN : Int)))), (0, .ref (q)), (1, .int (iI (x)))]) E dX7_tellParts_105 0 rfl rfl (by decide) rfl rfl ?_
                    refine hv_goto E 64 dX7_tellParts_108 (by decide) ?_
                    rw [show (nb CN 13 ++ LO) ++ hiP (mS I x) lo j.toNat = (nb CN 13 ++ LO) ++ hiP (mS I x) lo (j + 1).toNat from (by rw [hps, c4, if_pos (show D1 = D2 by omega)]; simp)]
                    show hm_V p l e (hm_rm 2 0 0) s m args below meth c D (hm_A w s.heap.size) 5 0 0 (MQ below (hm_Qv D w s.heap.size (fun w2 => w2 = mB K w q ia ta I b md pl (tl md b st (CC)))) args s 0 0 (hm_A w s.heap.size)) (mB K w q ia ta I b md pl (tl md b st ((nb CN 13 ++ LO) ++ hiP (mS I x) lo (j + 1).toNat))) 64 [(4, .int (iI (j + 1))), (3, .int (iI ((lo : Int)))), (2, .int (iI ((CN : Int)))), (0, .ref (q)), (1, .int (iI (x)))] []
                    refine hv_sub (lv2 := [(4, .int (iI (j + 1))), (3, .int (iI ((lo : Int)))), (2, .int (iI ((CN : Int)))), (0, .ref (q)), (1, .int (iI (x)))]) [0, 1, 2, 3, 4] rfl ?_
                    exact ih (j + 1) (by omega) (by omega) (by omega)
                  · rw [c4] at hpl
                    rw [if_neg (show ¬ D1 = D2 by omega)] at hpl
                    simp only [Bool.false_eq_true, if_false, List.length_append, List.length_cons, List.length_nil] at hpl
                    refine hv_aload_n E dX7_tellParts_100 rfl 3 rfl rfl ?_
                    refine hv_iconst E dX7_tellParts_101 rfl ?_
                    refine hv_topi (show iI (0) = bI (false) from rfl) ?_
                    refine hv_callVV (na := 1) (As := [.int (bI (false))]) (st := []) E (c7_tell l D K (tl md b st ((nb CN 13 ++ LO) ++ hiP (mS I x) lo j.toNat)) false hM hb0 hb1 hmd (by omega) (by omega) (by omega)) dX7_tellParts_102 hM.1 (show vwCl[6]? = some (RX7, TX7, 7) from rfl) gL_X7_73 gV_X7_tell gI_X7_tell gC_X7_tell gZ_X7 (by decide +kernel) rfl ⟨Nat.le_of_ble_eq_true rfl, Nat.le_of_ble_eq_true rfl⟩ (Nat.le_of_ble_eq_true rfl) ⟨Nat.zero_le _, Nat.zero_le _⟩ rfl rfl (fun w2 hp => ?_)
                    rw [mB_mB hm.n1 hm.n2 hm.n3, t1l] at hp
                    rw [hp]
                    show hm_V p l e (hm_rm 2 0 0) s m args below meth c D (hm_A w s.heap.size) 5 0 0 (MQ below (hm_Qv D w s.heap.size (fun w2 => w2 = mB K w q ia ta I b md pl (tl md b st (CC)))) args s 0 0 (hm_A w s.heap.size)) (mB K w q ia ta I b md pl (tl md b st ((nb CN 13 ++ LO) ++ hiP (mS I x) lo j.toNat ++ [false]))) 105 [(4, .int (iI (j))), (3, .int (iI ((lo : Int)))), (2, .int (iI ((CN : Int)))), (0, .ref (q)), (1, .int (iI (x)))] []
                    refine hv_iinc (lv2 := [(4, .int (iI (j + 1))), (3, .int (iI ((lo : Int)))), (2, .int (iI ((CN : Int)))), (0, .ref (q)), (1, .int (iI (x)))]) E dX7_tellParts_105 0 rfl rfl (by decide) rfl rfl ?_
                    refine hv_goto E 64 dX7_tellParts_108 (by decide) ?_
                    rw [show (nb CN 13 ++ LO) ++ hiP (mS I x) lo j.toNat ++ [false] = (nb CN 13 ++ LO) ++ hiP (mS I x) lo (j + 1).toNat from (by rw [hps, c4, if_neg (show ¬ D1 = D2 by omega)]; simp)]
                    show hm_V p l e (hm_rm 2 0 0) s m args below meth c D (hm_A w s.heap.size) 5 0 0 (MQ below (hm_Qv D w s.heap.size (fun w2 => w2 = mB K w q ia ta I b md pl (tl md b st (CC)))) args s 0 0 (hm_A w s.heap.size)) (mB K w q ia ta I b md pl (tl md b st ((nb CN 13 ++ LO) ++ hiP (mS I x) lo (j + 1).toNat))) 64 [(4, .int (iI (j + 1))), (3, .int (iI ((lo : Int)))), (2, .int (iI ((CN : Int)))), (0, .ref (q)), (1, .int (iI (x)))] []
                    refine hv_sub (lv2 := [(4, .int (iI (j + 1))), (3, .int (iI ((lo : Int)))), (2, .int (iI ((CN : Int)))), (0, .ref (q)), (1, .int (iI (x)))]) [0, 1, 2, 3, 4] rfl ?_
                    exact ih (j + 1) (by omega) (by omega) (by omega)
                · have hpl1 := hpl
                  rw [c4] at hpl1
                  simp only [if_true, List.length_append, List.length_cons, List.length_nil] at hpl1
                  refine hv_aload_n E dX7_tellParts_82 rfl 3 rfl rfl ?_
                  refine hv_iconst E dX7_tellParts_83 rfl ?_
                  refine hv_topi (show iI (1) = bI (true) from rfl) ?_
                  refine hv_callVV (na := 1) (As := [.int (bI (true))]) (st := []) E (c7_tell l D K (tl md b st ((nb CN 13 ++ LO) ++ hiP (mS I x) lo j.toNat)) true hM hb0 hb1 hmd (by omega) (by omega) (by omega)) dX7_tellParts_84 hM.1 (show vwCl[6]? = some (RX7, TX7, 7) from rfl) gL_X7_73 gV_X7_tell gI_X7_tell gC_X7_tell gZ_X7 (by decide +kernel) rfl ⟨Nat.le_of_ble_eq_true rfl, Nat.le_of_ble_eq_true rfl⟩ (Nat.le_of_ble_eq_true rfl) ⟨Nat.zero_le _, Nat.zero_le _⟩ rfl rfl (fun w2 hp => ?_)
                  rw [mB_mB hm.n1 hm.n2 hm.n3, t1l] at hp
                  rw [hp]
                  show hm_V p l e (hm_rm 2 0 0) s m args below meth c D (hm_A w s.heap.size) 5 0 0 (MQ below (hm_Qv D w s.heap.size (fun w2 => w2 = mB K w q ia ta I b md pl (tl md b st (CC)))) args s 0 0 (hm_A w s.heap.size)) (mB K w q ia ta I b md pl (tl md b st ((nb CN 13 ++ LO) ++ hiP (mS I x) lo j.toNat ++ [true]))) 87 [(4, .int (iI (j))), (3, .int (iI ((lo : Int)))), (2, .int (iI ((CN : Int)))), (0, .ref (q)), (1, .int (iI (x)))] []
                  refine hv_iload E dX7_tellParts_87 0 rfl rfl ?_
                  refine hv_iload_n E dX7_tellParts_89 rfl 1 rfl rfl ?_
                  refine hv_ishrR E dX7_tellParts_90 rfl rfl ?_
                  refine hv_topi (show (iI (j)) >>> ((iI ((lo : Int))) &&& 31) = iI ((D1 : Int)) from (by rw [hD1]; exact iI_shrN (by omega) (by omega) lo (by omega))) ?_
                  refine hv_iload E dX7_tellParts_91 0 rfl rfl ?_
                  refine hv_iconst E dX7_tellParts_93 rfl ?_
                  refine hv_iadd E dX7_tellParts_94 rfl ?_
                  refine hv_iload_n E dX7_tellParts_95 rfl 1 rfl rfl ?_
                  refine hv_ishrR E dX7_tellParts_96 rfl rfl ?_
                  refine hv_topi (show (iI (j + 1)) >>> ((iI ((lo : Int))) &&& 31) = iI ((D2 : Int)) from (by rw [hD2, show j.toNat + 1 = (j + 1).toNat by omega]; exact iI_shrN (by omega) (by omega) lo (by omega))) ?_
                  refine hv_icmp_eq E 105 dX7_tellParts_97 (by decide) ⟨by omega, by omega⟩ ⟨by omega, by omega⟩ rfl (fun c5 => ?_) (fun c5 => ?_)
                  · refine hv_iinc (lv2 := [(4, .int (iI (j + 1))), (3, .int (iI ((lo : Int)))), (2, .int (iI ((CN : Int)))), (0, .ref (q)), (1, .int (iI (x)))]) E dX7_tellParts_105 0 rfl rfl (by decide) rfl rfl ?_
                    refine hv_goto E 64 dX7_tellParts_108 (by decide) ?_
                    rw [show (nb CN 13 ++ LO) ++ hiP (mS I x) lo j.toNat ++ [true] = (nb CN 13 ++ LO) ++ hiP (mS I x) lo (j + 1).toNat from (by rw [hps, c4, if_pos (show D1 = D2 by omega)]; simp)]
                    show hm_V p l e (hm_rm 2 0 0) s m args below meth c D (hm_A w s.heap.size) 5 0 0 (MQ below (hm_Qv D w s.heap.size (fun w2 => w2 = mB K w q ia ta I b md pl (tl md b st (CC)))) args s 0 0 (hm_A w s.heap.size)) (mB K w q ia ta I b md pl (tl md b st ((nb CN 13 ++ LO) ++ hiP (mS I x) lo (j + 1).toNat))) 64 [(4, .int (iI (j + 1))), (3, .int (iI ((lo : Int)))), (2, .int (iI ((CN : Int)))), (0, .ref (q)), (1, .int (iI (x)))] []
                    refine hv_sub (lv2 := [(4, .int (iI (j + 1))), (3, .int (iI ((lo : Int)))), (2, .int (iI ((CN : Int)))), (0, .ref (q)), (1, .int (iI (x)))]) [0, 1, 2, 3, 4] rfl ?_
                    exact ih (j + 1) (by omega) (by omega) (by omega)
                  · have htd2 := tl_td md b st ((nb CN 13 ++ LO) ++ hiP (mS I x) lo j.toNat ++ [true])
                    simp only [List.length_append, nb_length, List.length_cons, List.length_nil] at htd2
                    have hM : mAt K (mB K w q ia ta I b md pl (tl md b st ((nb CN 13 ++ LO) ++ hiP (mS I x) lo j.toNat ++ [true]))) q ia ta I (tl md b st ((nb CN 13 ++ LO) ++ hiP (mS I x) lo j.toNat ++ [true])).1 b md (tl md b st ((nb CN 13 ++ LO) ++ hiP (mS I x) lo j.toNat ++ [true])).2.1 (tl md b st ((nb CN 13 ++ LO) ++ hiP (mS I x) lo j.toNat ++ [true])).2.2 pl := mAt_mM hm.n1 hm.n2 hm.n3
                    have hI : mI K (mB K w q ia ta I b md pl (tl md b st ((nb CN 13 ++ LO) ++ hiP (mS I x) lo j.toNat ++ [true]))) q ia _ I := hM.i
                    rw [c4] at hpl
                    rw [if_neg (show ¬ D1 = D2 by omega)] at hpl
                    simp only [if_true, List.length_append, List.length_cons, List.length_nil] at hpl
                    refine hv_aload_n E dX7_tellParts_100 rfl 3 rfl rfl ?_
                    refine hv_iconst E dX7_tellParts_101 rfl ?_
                    refine hv_topi (show iI (0) = bI (false) from rfl) ?_
                    refine hv_callVV (na := 1) (As := [.int (bI (false))]) (st := []) E (c7_tell l D K (tl md b st ((nb CN 13 ++ LO) ++ hiP (mS I x) lo j.toNat ++ [true])) false hM hb0 hb1 hmd (by omega) (by omega) (by omega)) dX7_tellParts_102 hM.1 (show vwCl[6]? = some (RX7, TX7, 7) from rfl) gL_X7_73 gV_X7_tell gI_X7_tell gC_X7_tell gZ_X7 (by decide +kernel) rfl ⟨Nat.le_of_ble_eq_true rfl, Nat.le_of_ble_eq_true rfl⟩ (Nat.le_of_ble_eq_true rfl) ⟨Nat.zero_le _, Nat.zero_le _⟩ rfl rfl (fun w2 hp => ?_)
                    rw [mB_mB hm.n1 hm.n2 hm.n3, t1l] at hp
                    rw [hp]
                    show hm_V p l e (hm_rm 2 0 0) s m args below meth c D (hm_A w s.heap.size) 5 0 0 (MQ below (hm_Qv D w s.heap.size (fun w2 => w2 = mB K w q ia ta I b md pl (tl md b st (CC)))) args s 0 0 (hm_A w s.heap.size)) (mB K w q ia ta I b md pl (tl md b st ((nb CN 13 ++ LO) ++ hiP (mS I x) lo j.toNat ++ [true] ++ [false]))) 105 [(4, .int (iI (j))), (3, .int (iI ((lo : Int)))), (2, .int (iI ((CN : Int)))), (0, .ref (q)), (1, .int (iI (x)))] []
                    refine hv_iinc (lv2 := [(4, .int (iI (j + 1))), (3, .int (iI ((lo : Int)))), (2, .int (iI ((CN : Int)))), (0, .ref (q)), (1, .int (iI (x)))]) E dX7_tellParts_105 0 rfl rfl (by decide) rfl rfl ?_
                    refine hv_goto E 64 dX7_tellParts_108 (by decide) ?_
                    rw [show (nb CN 13 ++ LO) ++ hiP (mS I x) lo j.toNat ++ [true] ++ [false] = (nb CN 13 ++ LO) ++ hiP (mS I x) lo (j + 1).toNat from (by rw [hps, c4, if_neg (show ¬ D1 = D2 by omega)]; simp)]
                    show hm_V p l e (hm_rm 2 0 0) s m args below meth c D (hm_A w s.heap.size) 5 0 0 (MQ below (hm_Qv D w s.heap.size (fun w2 => w2 = mB K w q ia ta I b md pl (tl md b st (CC)))) args s 0 0 (hm_A w s.heap.size)) (mB K w q ia ta I b md pl (tl md b st ((nb CN 13 ++ LO) ++ hiP (mS I x) lo (j + 1).toNat))) 64 [(4, .int (iI (j + 1))), (3, .int (iI ((lo : Int)))), (2, .int (iI ((CN : Int)))), (0, .ref (q)), (1, .int (iI (x)))] []
                    refine hv_sub (lv2 := [(4, .int (iI (j + 1))), (3, .int (iI ((lo : Int)))), (2, .int (iI ((CN : Int)))), (0, .ref (q)), (1, .int (iI (x)))]) [0, 1, 2, 3, 4] rfl ?_
                    exact ih (j + 1) (by omega) (by omega) (by omega)
          refine hv_sub (lv2 := [(4, .int (iI (0))), (3, .int (iI ((lo : Int)))), (2, .int (iI ((CN : Int)))), (0, .ref (q)), (1, .int (iI (x)))]) [0, 1, 2, 3, 4] rfl ?_
          exact L2 4097 0 (by omega) (by omega) (by omega)
        · have hm2 := lo_mono (mS I x) lo (show (j + 1).toNat ≤ 4096 by omega)
          rw [← hLO] at hm2
          have hps : loP (mS I x) lo (j + 1).toNat = loP (mS I x) lo j.toNat ++ (if (mS I x) j.toNat then nb j.toNat lo else []) := by rw [show (j + 1).toNat = j.toNat + 1 by omega]; rfl
          refine hv_aload_n E dX7_tellParts_38 rfl 3 rfl rfl ?_
          refine hv_iload_n E dX7_tellParts_39 rfl 4 rfl rfl ?_
          refine hv_iload E dX7_tellParts_40 0 rfl rfl ?_
          refine hv_callVI (na := 2) (As := [.int (iI (x)), .int (iI (j))]) (st := []) E (c7_is l D K x j (by omega) (by omega) (by omega) (by omega) hI) dX7_tellParts_42 hI.1 (show vwCl[6]? = some (RX7, TX7, 7) from rfl) gL_X7_28 gV_X7_is gI_X7_is gC_X7_is gZ_X7 (by decide +kernel) rfl ⟨Nat.le_of_ble_eq_true rfl, Nat.le_of_ble_eq_true rfl⟩ (Nat.le_of_ble_eq_true rfl) ⟨Nat.zero_le _, Nat.zero_le _⟩ rfl rfl (fun r w2 hp => ?_)
          rw [hp.1, hp.2]
          show hm_V p l e (hm_rm 2 0 0) s m args below meth c D (hm_A w s.heap.size) 5 0 0 (MQ below (hm_Qv D w s.heap.size (fun w2 => w2 = mB K w q ia ta I b md pl (tl md b st (CC)))) args s 0 0 (hm_A w s.heap.size)) (mB K w q ia ta I b md pl (tl md b st (nb CN 13 ++ loP (mS I x) lo j.toNat))) 45 [(4, .int (iI (j))), (3, .int (iI ((lo : Int)))), (2, .int (iI ((CN : Int)))), (0, .ref (q)), (1, .int (iI (x)))] [.int (bI (mS I x (j).toNat))]
          refine hv_if_eqB E 55 dX7_tellParts_45 (by decide) rfl (fun c4 => ?_) (fun c4 => ?_)
          · refine hv_iinc (lv2 := [(4, .int (iI (j + 1))), (3, .int (iI ((lo : Int)))), (2, .int (iI ((CN : Int)))), (0, .ref (q)), (1, .int (iI (x)))]) E dX7_tellParts_55 0 rfl rfl (by decide) rfl rfl ?_
            refine hv_goto E 30 dX7_tellParts_58 (by decide) ?_
            rw [show nb CN 13 ++ loP (mS I x) lo j.toNat = nb CN 13 ++ loP (mS I x) lo (j + 1).toNat from (by rw [hps, c4]; simp)]
            show hm_V p l e (hm_rm 2 0 0) s m args below meth c D (hm_A w s.heap.size) 5 0 0 (MQ below (hm_Qv D w s.heap.size (fun w2 => w2 = mB K w q ia ta I b md pl (tl md b st (CC)))) args s 0 0 (hm_A w s.heap.size)) (mB K w q ia ta I b md pl (tl md b st (nb CN 13 ++ loP (mS I x) lo (j + 1).toNat))) 30 [(4, .int (iI (j + 1))), (3, .int (iI ((lo : Int)))), (2, .int (iI ((CN : Int)))), (0, .ref (q)), (1, .int (iI (x)))] []
            refine hv_sub (lv2 := [(4, .int (iI (j + 1))), (3, .int (iI ((lo : Int)))), (2, .int (iI ((CN : Int)))), (0, .ref (q)), (1, .int (iI (x)))]) [0, 1, 2, 3, 4] rfl ?_
            exact ih (j + 1) (by omega) (by omega) (by omega)
          · have hpl : (loP (mS I x) lo (j + 1).toNat).length = (loP (mS I x) lo j.toNat).length + lo := by rw [hps, c4, if_pos rfl, List.length_append, nb_length]
            refine hv_aload_n E dX7_tellParts_48 rfl 3 rfl rfl ?_
            refine hv_iload E dX7_tellParts_49 0 rfl rfl ?_
            refine hv_iload_n E dX7_tellParts_51 rfl 1 rfl rfl ?_
            refine hv_callVV (na := 2) (As := [.int (iI (j)), .int (iI ((lo : Int)))]) (st := []) E (c7_tellNumber l D K (tl md b st (nb CN 13 ++ loP (mS I x) lo j.toNat)) (j) ((lo : Int)) (by omega) (by omega) (by omega) (by omega) hM hb0 hb1 hmd (by omega) (by omega) (by omega)) dX7_tellParts_52 hM.1 (show vwCl[6]? = some (RX7, TX7, 7) from rfl) gL_X7_87 gV_X7_tellNumber gI_X7_tellNumber gC_X7_tellNumber gZ_X7 (by decide +kernel) rfl ⟨Nat.le_of_ble_eq_true rfl, Nat.le_of_ble_eq_true rfl⟩ (Nat.le_of_ble_eq_true rfl) ⟨Nat.zero_le _, Nat.zero_le _⟩ rfl rfl (fun w2 hp => ?_)
            rw [mB_mB hm.n1 hm.n2 hm.n3, tl2] at hp
            rw [hp]
            show hm_V p l e (hm_rm 2 0 0) s m args below meth c D (hm_A w s.heap.size) 5 0 0 (MQ below (hm_Qv D w s.heap.size (fun w2 => w2 = mB K w q ia ta I b md pl (tl md b st (CC)))) args s 0 0 (hm_A w s.heap.size)) (mB K w q ia ta I b md pl (tl md b st (nb CN 13 ++ loP (mS I x) lo j.toNat ++ nb (j : Int).toNat ((lo : Int) : Int).toNat))) 55 [(4, .int (iI (j))), (3, .int (iI ((lo : Int)))), (2, .int (iI ((CN : Int)))), (0, .ref (q)), (1, .int (iI (x)))] []
            refine hv_iinc (lv2 := [(4, .int (iI (j + 1))), (3, .int (iI ((lo : Int)))), (2, .int (iI ((CN : Int)))), (0, .ref (q)), (1, .int (iI (x)))]) E dX7_tellParts_55 0 rfl rfl (by decide) rfl rfl ?_
            refine hv_goto E 30 dX7_tellParts_58 (by decide) ?_
            rw [show nb CN 13 ++ loP (mS I x) lo j.toNat ++ nb (j : Int).toNat ((lo : Int) : Int).toNat = nb CN 13 ++ loP (mS I x) lo (j + 1).toNat from (by rw [hps, c4, if_pos rfl, Int.toNat_natCast, List.append_assoc])]
            show hm_V p l e (hm_rm 2 0 0) s m args below meth c D (hm_A w s.heap.size) 5 0 0 (MQ below (hm_Qv D w s.heap.size (fun w2 => w2 = mB K w q ia ta I b md pl (tl md b st (CC)))) args s 0 0 (hm_A w s.heap.size)) (mB K w q ia ta I b md pl (tl md b st (nb CN 13 ++ loP (mS I x) lo (j + 1).toNat))) 30 [(4, .int (iI (j + 1))), (3, .int (iI ((lo : Int)))), (2, .int (iI ((CN : Int)))), (0, .ref (q)), (1, .int (iI (x)))] []
            refine hv_sub (lv2 := [(4, .int (iI (j + 1))), (3, .int (iI ((lo : Int)))), (2, .int (iI ((CN : Int)))), (0, .ref (q)), (1, .int (iI (x)))]) [0, 1, 2, 3, 4] rfl ?_
            exact ih (j + 1) (by omega) (by omega) (by omega)
    refine hv_sub (lv2 := [(4, .int (iI (0))), (3, .int (iI ((lo : Int)))), (2, .int (iI ((CN : Int)))), (0, .ref (q)), (1, .int (iI (x)))]) [0, 1, 2, 3, 4] rfl ?_
    exact LP 4097 0 (by omega) (by omega) (by omega)
  · exact hv_vret E dX7_tellParts_21 hr (by rw [show CC = nb CN 13 by rw [hCC]; unfold cdP; rw [← hCN, if_pos (by omega)]; simp])
set_option maxHeartbeats 4000000 in
set_option maxRecDepth 100000 in
theorem c7_tellGaps (l : Launch) (D : va_G) (K : Nat → ClassId) {w : hm_M} {q ia ta : Nat} {I : Nat → Bool} {b md pl : Int} (st : tS) (x : Int) (hx0 : 0 ≤ x) (hx1 : x ≤ 8) (hs0 : st.2.1 = 0) (hm : mAt K w q ia ta I st.1 b md st.2.1 st.2.2 pl) (hb0 : 0 ≤ b) (hb1 : b ≤ 8210) (hmd : 0 ≤ md ∧ md ≤ 2)  : hm_Cv l D K yX7_tellGaps cX7_tellGaps 5 2 [.ref (q), .int (iI (x))] w 0 0 (fun w2 => w2 = mB K w q ia ta I b md pl (tl md b st (cdG (mS I x)))) := by
  refine hm_enterV (by decide) (Nat.le_of_ble_eq_true rfl) ?_
  intro p e s m args below meth c E hr hnm
  show hm_V p l e (hm_rm 2 0 0) s m args below meth c D (hm_A w s.heap.size) 5 0 0 (MQ below (hm_Qv D w s.heap.size (fun w2 => w2 = mB K w q ia ta I b md pl (tl md b st (cdG (mS I x))))) args s 0 0 (hm_A w s.heap.size)) w 0 [(0, .ref (q)), (1, .int (iI (x)))] []
  obtain ⟨CN, hCN⟩ : ∃ z, z = ct (mS I x) 0 4096 := ⟨_, rfl⟩
  have hcn := ct_le (mS I x) 0 4096
  rw [← hCN] at hcn
  obtain ⟨CC, hCC⟩ : ∃ z, z = cdG (mS I x) := ⟨_, rfl⟩
  rw [← hCC]
  show hm_V p l e (hm_rm 2 0 0) s m args below meth c D (hm_A w s.heap.size) 5 0 0 (MQ below (hm_Qv D w s.heap.size (fun w2 => w2 = mB K w q ia ta I b md pl (tl md b st (CC)))) args s 0 0 (hm_A w s.heap.size)) w 0 [(0, .ref (q)), (1, .int (iI (x)))] []
  have hle := cdG_le (mS I x)
  rw [← hCC] at hle
  obtain ⟨GP, hGP⟩ : ∃ z, z = gpP (mS I x) 4096 := ⟨_, rfl⟩
  have hcc : CC = nb CN 13 ++ GP := by rw [hCC]; unfold cdG; rw [← hCN, hGP]
  have hcl : CC.length = 13 + GP.length := by rw [hcc, List.length_append, nb_length]
  refine hv_mem (show w = mB K w q ia ta I b md pl (tl md b st []) from mM_id hm) ?_
  have hM : mAt K (mB K w q ia ta I b md pl (tl md b st ([]))) q ia ta I (tl md b st ([])).1 b md (tl md b st ([])).2.1 (tl md b st ([])).2.2 pl := mAt_mM hm.n1 hm.n2 hm.n3
  have hI : mI K (mB K w q ia ta I b md pl (tl md b st ([]))) q ia _ I := hM.i
  have htd := tl_td md b st ([])
  simp only [List.length_append, nb_length, List.length_cons, List.length_nil] at htd
  refine hv_aload_n E dX7_tellGaps_0 rfl 0 rfl rfl ?_
  refine hv_aload_n E dX7_tellGaps_1 rfl 0 rfl rfl ?_
  refine hv_iload_n E dX7_tellGaps_2 rfl 1 rfl rfl ?_
  refine hv_iconst E dX7_tellGaps_3 rfl ?_
  refine hv_sipush E dX7_tellGaps_4 (by decide +kernel) rfl ?_
  refine hv_callVI (na := 3) (As := [.int (iI (x)), .int (iI (0)), .int (iI (4096))]) (st := [.ref (q)]) E (c7_many l D K x 0 4096 (by omega) (by omega) (by omega) (by omega) (by omega) hI) dX7_tellGaps_7 hI.1 (show vwCl[6]? = some (RX7, TX7, 7) from rfl) gL_X7_36 gV_X7_many gI_X7_many gC_X7_many gZ_X7 (by decide +kernel) rfl ⟨Nat.le_of_ble_eq_true rfl, Nat.le_of_ble_eq_true rfl⟩ (Nat.le_of_ble_eq_true rfl) ⟨Nat.zero_le _, Nat.zero_le _⟩ rfl rfl (fun r w2 hp => ?_)
  rw [hp.1, hp.2, show ct (mS I x) (0 : Int).toNat (4096 - 0 : Int).toNat = CN from hCN.symm]
  show hm_V p l e (hm_rm 2 0 0) s m args below meth c D (hm_A w s.heap.size) 5 0 0 (MQ below (hm_Qv D w s.heap.size (fun w2 => w2 = mB K w q ia ta I b md pl (tl md b st (CC)))) args s 0 0 (hm_A w s.heap.size)) (mB K w q ia ta I b md pl (tl md b st ([]))) 10 [(0, .ref (q)), (1, .int (iI (x)))] [.int (iI ((CN : Int))), .ref (q)]
  refine hv_bipush E dX7_tellGaps_10 (by decide +kernel) rfl ?_
  refine hv_callVV (na := 2) (As := [.int (iI ((CN : Int))), .int (iI (13))]) (st := []) E (c7_tellNumber l D K (tl md b st ([])) ((CN : Int)) (13) (by omega) (by omega) (by omega) (by omega) hM hb0 hb1 hmd (by omega) (by omega) (by omega)) dX7_tellGaps_12 hM.1 (show vwCl[6]? = some (RX7, TX7, 7) from rfl) gL_X7_87 gV_X7_tellNumber gI_X7_tellNumber gC_X7_tellNumber gZ_X7 (by decide +kernel) rfl ⟨Nat.le_of_ble_eq_true rfl, Nat.le_of_ble_eq_true rfl⟩ (Nat.le_of_ble_eq_true rfl) ⟨Nat.zero_le _, Nat.zero_le _⟩ rfl rfl (fun w2 hp => ?_)
  rw [mB_mB hm.n1 hm.n2 hm.n3, tl2] at hp
  rw [hp]
  show hm_V p l e (hm_rm 2 0 0) s m args below meth c D (hm_A w s.heap.size) 5 0 0 (MQ below (hm_Qv D w s.heap.size (fun w2 => w2 = mB K w q ia ta I b md pl (tl md b st (CC)))) args s 0 0 (hm_A w s.heap.size)) (mB K w q ia ta I b md pl (tl md b st ([] ++ nb ((CN : Int) : Int).toNat (13 : Int).toNat))) 15 [(0, .ref (q)), (1, .int (iI (x)))] []
  rw [show [] ++ nb ((CN : Int) : Int).toNat (13 : Int).toNat = nb CN 13 ++ gpP (mS I x) (0 : Int).toNat from (by rw [List.nil_append, Int.toNat_natCast]; simp [gpP])]
  show hm_V p l e (hm_rm 2 0 0) s m args below meth c D (hm_A w s.heap.size) 5 0 0 (MQ below (hm_Qv D w s.heap.size (fun w2 => w2 = mB K w q ia ta I b md pl (tl md b st (CC)))) args s 0 0 (hm_A w s.heap.size)) (mB K w q ia ta I b md pl (tl md b st (nb CN 13 ++ gpP (mS I x) (0 : Int).toNat))) 15 [(0, .ref (q)), (1, .int (iI (x)))] []
  refine hv_iconst E dX7_tellGaps_15 rfl ?_
  refine hv_istore_n (lv2 := [(2, .int (iI ((-1)))), (0, .ref (q)), (1, .int (iI (x)))]) E dX7_tellGaps_16 rfl (by decide) rfl rfl ?_
  refine hv_iconst E dX7_tellGaps_17 rfl ?_
  refine hv_istore_n (lv2 := [(3, .int (iI (0))), (2, .int (iI ((-1)))), (0, .ref (q)), (1, .int (iI (x)))]) E dX7_tellGaps_18 rfl (by decide) rfl rfl ?_
  have LP : ∀ (k : Nat) (j : Int), (4096 - j < (k : Int)) → (0 ≤ j) → (j ≤ 4096) → hm_V p l e (hm_rm 2 0 0) s m args below meth c D (hm_A w s.heap.size) 5 0 0 (MQ below (hm_Qv D w s.heap.size (fun w2 => w2 = mB K w q ia ta I b md pl (tl md b st (CC)))) args s 0 0 (hm_A w s.heap.size)) (mB K w q ia ta I b md pl (tl md b st (nb CN 13 ++ gpP (mS I x) j.toNat))) 19 [(3, .int (iI (j))), (2, .int (iI ((lst (mS I x) j.toNat : Int) - 1))), (0, .ref (q)), (1, .int (iI (x)))] [] := by
    intro k
    induction k with
    | zero =>
      intro j hk g0 g1
      exact absurd hk (by omega)
    | succ k ih =>
      intro j hk g0 g1
      have hM : mAt K (mB K w q ia ta I b md pl (tl md b st (nb CN 13 ++ gpP (mS I x) j.toNat))) q ia ta I (tl md b st (nb CN 13 ++ gpP (mS I x) j.toNat)).1 b md (tl md b st (nb CN 13 ++ gpP (mS I x) j.toNat)).2.1 (tl md b st (nb CN 13 ++ gpP (mS I x) j.toNat)).2.2 pl := mAt_mM hm.n1 hm.n2 hm.n3
      have hI : mI K (mB K w q ia ta I b md pl (tl md b st (nb CN 13 ++ gpP (mS I x) j.toNat))) q ia _ I := hM.i
      have htd := tl_td md b st (nb CN 13 ++ gpP (mS I x) j.toNat)
      simp only [List.length_append, nb_length, List.length_cons, List.length_nil] at htd
      have hm1 := gpP_mono (mS I x) (show j.toNat ≤ 4096 by omega)
      rw [← hGP] at hm1
      have hll := lst_le (mS I x) j.toNat
      refine hv_iload_n E dX7_tellGaps_19 rfl 0 rfl rfl ?_
      refine hv_sipush E dX7_tellGaps_20 (by decide +kernel) rfl ?_
      refine hv_icmp_ge E 75 dX7_tellGaps_23 (by decide) ⟨by omega, by omega⟩ ⟨by omega, by omega⟩ rfl (fun c2 => ?_) (fun c2 => ?_)
      · exact hv_vret E dX7_tellGaps_75 hr (by rw [hcc, show j.toNat = 4096 by omega, ← hGP])
      · have hm2 := gpP_mono (mS I x) (show (j + 1).toNat ≤ 4096 by omega)
        rw [← hGP] at hm2
        have hps : gpP (mS I x) (j + 1).toNat = gpP (mS I x) j.toNat ++ (if (mS I x) j.toNat then nb (j.toNat + 1 - lst (mS I x) j.toNat) (2 * wdt (j.toNat + 1 - lst (mS I x) j.toNat) - 1) else []) := by rw [show (j + 1).toNat = j.toNat + 1 by omega]; rfl
        have hls : lst (mS I x) (j + 1).toNat = if (mS I x) j.toNat then j.toNat + 1 else lst (mS I x) j.toNat := by rw [show (j + 1).toNat = j.toNat + 1 by omega]; rfl
        refine hv_aload_n E dX7_tellGaps_26 rfl 2 rfl rfl ?_
        refine hv_iload_n E dX7_tellGaps_27 rfl 3 rfl rfl ?_
        refine hv_iload_n E dX7_tellGaps_28 rfl 0 rfl rfl ?_
        refine hv_callVI (na := 2) (As := [.int (iI (x)), .int (iI (j))]) (st := []) E (c7_is l D K x j (by omega) (by omega) (by omega) (by omega) hI) dX7_tellGaps_29 hI.1 (show vwCl[6]? = some (RX7, TX7, 7) from rfl) gL_X7_28 gV_X7_is gI_X7_is gC_X7_is gZ_X7 (by decide +kernel) rfl ⟨Nat.le_of_ble_eq_true rfl, Nat.le_of_ble_eq_true rfl⟩ (Nat.le_of_ble_eq_true rfl) ⟨Nat.zero_le _, Nat.zero_le _⟩ rfl rfl (fun r w2 hp => ?_)
        rw [hp.1, hp.2]
        show hm_V p l e (hm_rm 2 0 0) s m args below meth c D (hm_A w s.heap.size) 5 0 0 (MQ below (hm_Qv D w s.heap.size (fun w2 => w2 = mB K w q ia ta I b md pl (tl md b st (CC)))) args s 0 0 (hm_A w s.heap.size)) (mB K w q ia ta I b md pl (tl md b st (nb CN 13 ++ gpP (mS I x) j.toNat))) 32 [(3, .int (iI (j))), (2, .int (iI ((lst (mS I x) j.toNat : Int) - 1))), (0, .ref (q)), (1, .int (iI (x)))] [.int (bI (mS I x (j).toNat))]
        refine hv_if_eqB E 69 dX7_tellGaps_32 (by decide) rfl (fun c4 => ?_) (fun c4 => ?_)
        · rw [c4] at hls hps
          simp only [Bool.false_eq_true, if_false, List.append_nil] at hls hps
          refine hv_iinc (lv2 := [(3, .int (iI (j + 1))), (2, .int (iI ((lst (mS I x) j.toNat : Int) - 1))), (0, .ref (q)), (1, .int (iI (x)))]) E dX7_tellGaps_69 0 rfl rfl (by decide) rfl rfl ?_
          refine hv_goto E 19 dX7_tellGaps_72 (by decide) ?_
          rw [show nb CN 13 ++ gpP (mS I x) j.toNat = nb CN 13 ++ gpP (mS I x) (j + 1).toNat from (by rw [hps])]
          show hm_V p l e (hm_rm 2 0 0) s m args below meth c D (hm_A w s.heap.size) 5 0 0 (MQ below (hm_Qv D w s.heap.size (fun w2 => w2 = mB K w q ia ta I b md pl (tl md b st (CC)))) args s 0 0 (hm_A w s.heap.size)) (mB K w q ia ta I b md pl (tl md b st (nb CN 13 ++ gpP (mS I x) (j + 1).toNat))) 19 [(3, .int (iI (j + 1))), (2, .int (iI ((lst (mS I x) j.toNat : Int) - 1))), (0, .ref (q)), (1, .int (iI (x)))] []
          rw [show lst (mS I x) j.toNat = lst (mS I x) (j + 1).toNat from hls.symm]
          show hm_V p l e (hm_rm 2 0 0) s m args below meth c D (hm_A w s.heap.size) 5 0 0 (MQ below (hm_Qv D w s.heap.size (fun w2 => w2 = mB K w q ia ta I b md pl (tl md b st (CC)))) args s 0 0 (hm_A w s.heap.size)) (mB K w q ia ta I b md pl (tl md b st (nb CN 13 ++ gpP (mS I x) (j + 1).toNat))) 19 [(3, .int (iI (j + 1))), (2, .int (iI ((lst (mS I x) (j + 1).toNat : Int) - 1))), (0, .ref (q)), (1, .int (iI (x)))] []
          refine hv_sub (lv2 := [(3, .int (iI (j + 1))), (2, .int (iI ((lst (mS I x) (j + 1).toNat : Int) - 1))), (0, .ref (q)), (1, .int (iI (x)))]) [0, 1, 2, 3] rfl ?_
          exact ih (j + 1) (by omega) (by omega) (by omega)
        · rw [c4, if_pos rfl] at hls hps
          obtain ⟨GA, hGA⟩ : ∃ z, z = j.toNat + 1 - lst (mS I x) j.toNat := ⟨_, rfl⟩
          rw [← hGA] at hps
          obtain ⟨WD, hWD⟩ : ∃ z, z = wdt GA := ⟨_, rfl⟩
          rw [← hWD] at hps
          have wd1 : 1 ≤ WD := by rw [hWD]; unfold wdt; omega
          have wd2 : WD ≤ 13 := by rw [hWD]; exact wdt_le (by omega) (show GA < 2 ^ 13 by omega)
          obtain ⟨wd4, wd5⟩ := wdt_ok (g := GA) (by omega)
          rw [← hWD] at wd4 wd5
          have hpl : (gpP (mS I x) (j + 1).toNat).length = (gpP (mS I x) j.toNat).length + (2 * WD - 1) := by rw [hps, List.length_append, nb_length]
          have ih0 := ih
          refine hv_iconst E dX7_tellGaps_35 rfl ?_
          refine hv_istore (lv2 := [(4, .int (iI (1))), (3, .int (iI (j))), (2, .int (iI ((lst (mS I x) j.toNat : Int) - 1))), (0, .ref (q)), (1, .int (iI (x)))]) E dX7_tellGaps_36 (by decide) rfl rfl ?_
          have L2 : ∀ (k : Nat) (u : Nat), ((WD : Int) - u < (k : Int)) → (1 ≤ u) → (u ≤ WD) → hm_V p l e (hm_rm 2 0 0) s m args below meth c D (hm_A w s.heap.size) 5 0 0 (MQ below (hm_Qv D w s.heap.size (fun w2 => w2 = mB K w q ia ta I b md pl (tl md b st (CC)))) args s 0 0 (hm_A w s.heap.size)) (mB K w q ia ta I b md pl (tl md b st (nb CN 13 ++ gpP (mS I x) j.toNat))) 38 [(4, .int (iI ((u : Int)))), (3, .int (iI (j))), (2, .int (iI ((lst (mS I x) j.toNat : Int) - 1))), (0, .ref (q)), (1, .int (iI (x)))] [] := by
            intro k
            induction k with
            | zero =>
              intro u hk2 u0 u1
              exact absurd hk2 (by omega)
            | succ k ih =>
              intro u hk2 u0 u1
              refine hv_iconst E dX7_tellGaps_38 rfl ?_
              refine hv_iload E dX7_tellGaps_39 0 rfl rfl ?_
              refine hv_ishlR E dX7_tellGaps_41 rfl rfl ?_
              refine hv_topi (show (iI (1)) <<< ((iI ((u : Int))) &&& 31) = iI (((2 ^ u : Nat) : Int)) from (by
                    have h9 := iI_shlN 1 (k := (u : Int)) (by omega) (by omega)
                    rw [Int.toNat_natCast] at h9
                    rw [h9]; congr 1; push_cast; omega)) ?_
              have hpw : 2 ^ u ≤ 2 ^ 13 := Nat.pow_le_pow_right (by omega) (by omega)
              obtain ⟨PW, hPW⟩ : ∃ z, z = 2 ^ u := ⟨_, rfl⟩
              rw [← hPW] at hpw ⊢
              show hm_V p l e (hm_rm 2 0 0) s m args below meth c D (hm_A w s.heap.size) 5 0 0 (MQ below (hm_Qv D w s.heap.size (fun w2 => w2 = mB K w q ia ta I b md pl (tl md b st (CC)))) args s 0 0 (hm_A w s.heap.size)) (mB K w q ia ta I b md pl (tl md b st (nb CN 13 ++ gpP (mS I x) j.toNat))) 42 [(4, .int (iI ((u : Int)))), (3, .int (iI (j))), (2, .int (iI ((lst (mS I x) j.toNat : Int) - 1))), (0, .ref (q)), (1, .int (iI (x)))] [.int (iI ((PW : Int)))]
              refine hv_iload_n E dX7_tellGaps_42 rfl 1 rfl rfl ?_
              refine hv_iload_n E dX7_tellGaps_43 rfl 2 rfl rfl ?_
              refine hv_isub E dX7_tellGaps_44 rfl ?_
              refine hv_icmp_gt E 54 dX7_tellGaps_45 (by decide) ⟨by omega, by omega⟩ ⟨by omega, by omega⟩ rfl (fun c6 => ?_) (fun c6 => ?_)
              · have hu : u = WD := by
                  rcases (show u < WD ∨ u = WD by omega) with q | q
                  · exfalso
                    have := Nat.pow_le_pow_right (n := 2) (by omega) (show u ≤ WD - 1 by omega)
                    omega
                  · exact q
                subst hu
                refine hv_aload_n E dX7_tellGaps_54 rfl 3 rfl rfl ?_
                refine hv_iload_n E dX7_tellGaps_55 rfl 1 rfl rfl ?_
                refine hv_iload_n E dX7_tellGaps_56 rfl 2 rfl rfl ?_
                refine hv_isub E dX7_tellGaps_57 rfl ?_
                refine hv_iconst E dX7_tellGaps_58 rfl ?_
                refine hv_iload E dX7_tellGaps_59 0 rfl rfl ?_
                refine hv_imul E dX7_tellGaps_61 rfl ?_
                refine hv_iconst E dX7_tellGaps_62 rfl ?_
                refine hv_isub E dX7_tellGaps_63 rfl ?_
                refine hv_callVV (na := 2) (As := [.int (iI (j - ((lst (mS I x) j.toNat : Int) - 1))), .int (iI ((2 * ((u : Int))) - 1))]) (st := []) E (c7_tellNumber l D K (tl md b st (nb CN 13 ++ gpP (mS I x) j.toNat)) (j - ((lst (mS I x) j.toNat : Int) - 1)) (2 * (u : Int) - 1) (by omega) (by omega) (by omega) (by omega) hM hb0 hb1 hmd (by omega) (by omega) (by omega)) dX7_tellGaps_64 hM.1 (show vwCl[6]? = some (RX7, TX7, 7) from rfl) gL_X7_87 gV_X7_tellNumber gI_X7_tellNumber gC_X7_tellNumber gZ_X7 (by decide +kernel) rfl ⟨Nat.le_of_ble_eq_true rfl, Nat.le_of_ble_eq_true rfl⟩ (Nat.le_of_ble_eq_true rfl) ⟨Nat.zero_le _, Nat.zero_le _⟩ rfl rfl (fun w2 hp => ?_)
                rw [mB_mB hm.n1 hm.n2 hm.n3, tl2] at hp
                rw [hp]
                show hm_V p l e (hm_rm 2 0 0) s m args below meth c D (hm_A w s.heap.size) 5 0 0 (MQ below (hm_Qv D w s.heap.size (fun w2 => w2 = mB K w q ia ta I b md pl (tl md b st (CC)))) args s 0 0 (hm_A w s.heap.size)) (mB K w q ia ta I b md pl (tl md b st (nb CN 13 ++ gpP (mS I x) j.toNat ++ nb (j - ((lst (mS I x) j.toNat : Int) - 1) : Int).toNat (2 * (u : Int) - 1 : Int).toNat))) 67 [(4, .int (iI ((u : Int)))), (3, .int (iI (j))), (2, .int (iI ((lst (mS I x) j.toNat : Int) - 1))), (0, .ref (q)), (1, .int (iI (x)))] []
                refine hv_iload_n E dX7_tellGaps_67 rfl 1 rfl rfl ?_
                refine hv_istore_n (lv2 := [(2, .int (iI (j))), (4, .int (iI ((u : Int)))), (3, .int (iI (j))), (0, .ref (q)), (1, .int (iI (x)))]) E dX7_tellGaps_68 rfl (by decide) rfl rfl ?_
                refine hv_iinc (lv2 := [(3, .int (iI (j + 1))), (2, .int (iI (j))), (4, .int (iI ((u : Int)))), (0, .ref (q)), (1, .int (iI (x)))]) E dX7_tellGaps_69 2 rfl rfl (by decide) rfl rfl ?_
                refine hv_goto E 19 dX7_tellGaps_72 (by decide) ?_
                rw [show nb CN 13 ++ gpP (mS I x) j.toNat ++ nb (j - ((lst (mS I x) j.toNat : Int) - 1) : Int).toNat (2 * (u : Int) - 1 : Int).toNat = nb CN 13 ++ gpP (mS I x) (j + 1).toNat from (by rw [hps, show (j - ((lst (mS I x) j.toNat : Int) - 1)).toNat = GA by omega, show (2 * (u : Int) - 1).toNat = 2 * u - 1 by omega, List.append_assoc])]
                show hm_V p l e (hm_rm 2 0 0) s m args below meth c D (hm_A w s.heap.size) 5 0 0 (MQ below (hm_Qv D w s.heap.size (fun w2 => w2 = mB K w q ia ta I b md pl (tl md b st (CC)))) args s 0 0 (hm_A w s.heap.size)) (mB K w q ia ta I b md pl (tl md b st (nb CN 13 ++ gpP (mS I x) (j + 1).toNat))) 19 [(3, .int (iI (j + 1))), (2, .int (iI (j))), (4, .int (iI ((u : Int)))), (0, .ref (q)), (1, .int (iI (x)))] []
                have h9 := ih0 (j + 1) (by omega) (by omega) (by omega)
                rw [hls, show (((j.toNat + 1 : Nat) : Int) - 1) = j by omega] at h9
                refine hv_sub (lv2 := [(3, .int (iI (j + 1))), (2, .int (iI (j))), (0, .ref (q)), (1, .int (iI (x)))]) [0, 1, 3, 4] rfl ?_
                exact h9
              · refine hv_iinc (lv2 := [(4, .int (iI (((u : Int)) + 1))), (3, .int (iI (j))), (2, .int (iI ((lst (mS I x) j.toNat : Int) - 1))), (0, .ref (q)), (1, .int (iI (x)))]) E dX7_tellGaps_48 0 rfl rfl (by decide) rfl rfl ?_
                refine hv_goto E 38 dX7_tellGaps_51 (by decide) ?_
                show hm_V p l e (hm_rm 2 0 0) s m args below meth c D (hm_A w s.heap.size) 5 0 0 (MQ below (hm_Qv D w s.heap.size (fun w2 => w2 = mB K w q ia ta I b md pl (tl md b st (CC)))) args s 0 0 (hm_A w s.heap.size)) (mB K w q ia ta I b md pl (tl md b st (nb CN 13 ++ gpP (mS I x) j.toNat))) 38 [(4, .int (iI (((u + 1 : Nat) : Int)))), (3, .int (iI (j))), (2, .int (iI ((lst (mS I x) j.toNat : Int) - 1))), (0, .ref (q)), (1, .int (iI (x)))] []
                refine hv_sub (lv2 := [(4, .int (iI (((u + 1 : Nat) : Int)))), (3, .int (iI (j))), (2, .int (iI ((lst (mS I x) j.toNat : Int) - 1))), (0, .ref (q)), (1, .int (iI (x)))]) [0, 1, 2, 3, 4] rfl ?_
                exact ih (u + 1) (by omega) (by omega) (by
                      rcases (show u < WD ∨ u = WD by omega) with q | q
                      · exact q
                      · exfalso; subst q; omega)
          show hm_V p l e (hm_rm 2 0 0) s m args below meth c D (hm_A w s.heap.size) 5 0 0 (MQ below (hm_Qv D w s.heap.size (fun w2 => w2 = mB K w q ia ta I b md pl (tl md b st (CC)))) args s 0 0 (hm_A w s.heap.size)) (mB K w q ia ta I b md pl (tl md b st (nb CN 13 ++ gpP (mS I x) j.toNat))) 38 [(4, .int (iI (((1 : Nat) : Int)))), (3, .int (iI (j))), (2, .int (iI ((lst (mS I x) j.toNat : Int) - 1))), (0, .ref (q)), (1, .int (iI (x)))] []
          refine hv_sub (lv2 := [(4, .int (iI (((1 : Nat) : Int)))), (3, .int (iI (j))), (2, .int (iI ((lst (mS I x) j.toNat : Int) - 1))), (0, .ref (q)), (1, .int (iI (x)))]) [0, 1, 2, 3, 4] rfl ?_
          exact L2 14 1 (by omega) (by omega) (by omega)
  have h9 := LP 4097 0 (by omega) (by omega) (by omega)
  rw [show ((lst (mS I x) (0 : Int).toNat : Nat) : Int) - 1 = -1 from rfl] at h9
  refine hv_sub (lv2 := [(3, .int (iI (0))), (2, .int (iI ((-1)))), (0, .ref (q)), (1, .int (iI (x)))]) [0, 1, 2, 3] rfl ?_
  exact h9
