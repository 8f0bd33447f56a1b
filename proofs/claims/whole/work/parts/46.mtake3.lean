theorem cI_m {X : Nat → Bool} {L : Int} {U U2 : Nat → Bool} {h P P2 : Nat} (hc : cI X L U h P) (hh : h < 16) {S : Nat → Bool} (hS : isC X L (cdC S)) (hp : pE X P h U U2 P2) : cI X L U2 (h + 1) P2 := by
  by_cases hf : bv X P 2 = fm U2 h
  · exact cI_step hc hh hp hf
  · exact absurd hS (cI_bad hc hh hp hf S)
theorem cI_S {X : Nat → Bool} {L : Int} {U : Nat → Bool} {P : Nat} (hc : cI X L U 16 P) {S : Nat → Bool} (hS : isC X L (cdC S)) (u : Nat) (hu : u < 4096) : U u = S u := (hc.2.2.2 S hS u (by omega)).symm
set_option maxHeartbeats 4000000 in
set_option maxRecDepth 100000 in
theorem c7_takePieces (l : Launch) (D : va_G) (K : Nat → ClassId) {w : hm_M} {q ia ta : Nat} {I T : Nat → Bool} {b md td : Int} {ag : Bool} (hU0 : ∀ u, u < 4096 → mS I 8 u = false) (hm : mAt K w q ia ta I T b md td ag ((0 : Nat) : Int)) (hb0 : 0 ≤ b) (hb1 : b ≤ 8210)  : hm_Cv l D K yX7_takePieces cX7_takePieces 8 3 [.ref (q)] w 0 0 (fun w2 => ∃ (J : Nat → Bool) (P2 : Nat), w2 = mM K w q ia ta J T b md td ag ((P2 : Nat) : Int) ∧ (∀ i, i < 32768 → J i = I i) ∧ ∀ S, isC (tB T b) b (cdC S) → ∀ u, u < 4096 → mS J 8 u = S u) := by
  refine hm_enterV (by decide) (Nat.le_of_ble_eq_true rfl) ?_
  intro p e s m args below meth c E hr hnm
  show hm_V p l e (hm_rm 3 0 0) s m args below meth c D (hm_A w s.heap.size) 8 0 0 (MQ below (hm_Qv D w s.heap.size (fun w2 => ∃ (J : Nat → Bool) (P2 : Nat), w2 = mM K w q ia ta J T b md td ag ((P2 : Nat) : Int) ∧ (∀ i, i < 32768 → J i = I i) ∧ ∀ S, isC (tB T b) b (cdC S) → ∀ u, u < 4096 → mS J 8 u = S u)) args s 0 0 (hm_A w s.heap.size)) w 0 [(0, .ref (q))] []
  refine hv_mem (show w = mM K w q ia ta I T b md td ag ((0 : Nat) : Int) from mM_id hm) ?_
  refine hv_iconst E dX7_takePieces_0 rfl ?_
  refine hv_istore_n (lv2 := [(1, .int (iI (0))), (0, .ref (q))]) E dX7_takePieces_1 rfl (by decide) rfl rfl ?_
  show hm_V p l e (hm_rm 3 0 0) s m args below meth c D (hm_A w s.heap.size) 8 0 0 (MQ below (hm_Qv D w s.heap.size (fun w2 => ∃ (J : Nat → Bool) (P2 : Nat), w2 = mM K w q ia ta J T b md td ag ((P2 : Nat) : Int) ∧ (∀ i, i < 32768 → J i = I i) ∧ ∀ S, isC (tB T b) b (cdC S) → ∀ u, u < 4096 → mS J 8 u = S u)) args s 0 0 (hm_A w s.heap.size)) (mM K w q ia ta I T b md td ag ((0 : Nat) : Int)) 2 [(1, .int (iI (((0 : Nat) : Int)))), (0, .ref (q))] []
  have LP : ∀ (k : Nat) (h P : Nat) (J : Nat → Bool), ((16 : Int) - h < (k : Int)) → (h ≤ 16) → (P ≤ 5000 * h) → (∀ i, i < 32768 → J i = I i) → (∀ u, 256 * h ≤ u → u < 4096 → mS J 8 u = false) → (∀ S, isC (tB T b) b (cdC S) → cI (tB T b) b (mS J 8) h P) → hm_V p l e (hm_rm 3 0 0) s m args below meth c D (hm_A w s.heap.size) 8 0 0 (MQ below (hm_Qv D w s.heap.size (fun w2 => ∃ (J : Nat → Bool) (P2 : Nat), w2 = mM K w q ia ta J T b md td ag ((P2 : Nat) : Int) ∧ (∀ i, i < 32768 → J i = I i) ∧ ∀ S, isC (tB T b) b (cdC S) → ∀ u, u < 4096 → mS J 8 u = S u)) args s 0 0 (hm_A w s.heap.size)) (mM K w q ia ta J T b md td ag ((P : Nat) : Int)) 2 [(1, .int (iI ((h : Int)))), (0, .ref (q))] [] := by
    intro k
    induction k with
    | zero =>
      intro h P J hk h16 hPb hlo hup hE
      exact absurd hk (by omega)
    | succ k ih =>
      intro h P J hk h16 hPb hlo hup hE
      have hM : mAt K (mM K w q ia ta J T b md td ag ((P : Nat) : Int)) q ia ta J T b md td ag ((P : Nat) : Int) := mAt_mM hm.n1 hm.n2 hm.n3
      refine hv_iload_n E dX7_takePieces_2 rfl 0 rfl rfl ?_
      refine hv_bipush E dX7_takePieces_3 (by decide +kernel) rfl ?_
      refine hv_icmp_ge E 170 dX7_takePieces_5 (by decide) ⟨by omega, by omega⟩ ⟨by omega, by omega⟩ rfl (fun c1 => ?_) (fun c1 => ?_)
      · have hh : h = 16 := by omega
        subst hh
        exact hv_vret E dX7_takePieces_170 hr ⟨J, P, rfl, hlo, fun S hS u hu => cI_S (hE S hS) hS u hu⟩
      · have hh : h < 16 := by omega
        have ih0 := ih
        refine hv_aload_n E dX7_takePieces_8 rfl 1 rfl rfl ?_
        refine hv_iconst E dX7_takePieces_9 rfl ?_
        refine hv_callVI (na := 1) (As := [.int (iI (2))]) (st := []) E (c7_takeNumber l D K (P0 := P) (2) (by omega) (by omega) (by omega) hM hb0 hb1) dX7_takePieces_10 hM.1 (show vwCl[6]? = some (RX7, TX7, 7) from rfl) gL_X7_119 gV_X7_takeNumber gI_X7_takeNumber gC_X7_takeNumber gZ_X7 (by decide +kernel) rfl ⟨Nat.le_of_ble_eq_true rfl, Nat.le_of_ble_eq_true rfl⟩ (Nat.le_of_ble_eq_true rfl) ⟨Nat.zero_le _, Nat.zero_le _⟩ rfl rfl (fun r w2 hp => ?_)
        rw [mM_mM hm.n1 hm.n2 hm.n3, show (2 : Int).toNat = 2 by omega] at hp
        obtain ⟨FM, hFM⟩ : ∃ zz, zz = bv (tB T b) (P) (2) := ⟨_, rfl⟩
        have hFMb := bv_lt (tB T b) (P) (2)
        rw [← hFM] at hp hFMb
        rw [hp.1, hp.2]
        show hm_V p l e (hm_rm 3 0 0) s m args below meth c D (hm_A w s.heap.size) 8 0 0 (MQ below (hm_Qv D w s.heap.size (fun w2 => ∃ (J : Nat → Bool) (P2 : Nat), w2 = mM K w q ia ta J T b md td ag ((P2 : Nat) : Int) ∧ (∀ i, i < 32768 → J i = I i) ∧ ∀ S, isC (tB T b) b (cdC S) → ∀ u, u < 4096 → mS J 8 u = S u)) args s 0 0 (hm_A w s.heap.size)) (mM K w q ia ta J T b md td ag ((P + 2 : Nat) : Int)) 13 [(1, .int (iI ((h : Int)))), (0, .ref (q))] [.int (iI ((FM : Int)))]
        clear hM
        have hM : mAt K (mM K w q ia ta J T b md td ag ((P + 2 : Nat) : Int)) q ia ta J T b md td ag ((P + 2 : Nat) : Int) := mAt_mM hm.n1 hm.n2 hm.n3
        have hFM := hFM.symm
        refine hv_istore_n (lv2 := [(2, .int (iI ((FM : Int)))), (1, .int (iI ((h : Int)))), (0, .ref (q))]) E dX7_takePieces_13 rfl (by decide) rfl rfl ?_
        rcases (show FM = 0 ∨ FM = 1 ∨ FM = 2 ∨ FM = 3 by rw [show (2 : Nat) ^ 2 = 4 from rfl] at hFMb; omega) with hF | hF | hF | hF
        · rw [hF]
          show hm_V p l e (hm_rm 3 0 0) s m args below meth c D (hm_A w s.heap.size) 8 0 0 (MQ below (hm_Qv D w s.heap.size (fun w2 => ∃ (J : Nat → Bool) (P2 : Nat), w2 = mM K w q ia ta J T b md td ag ((P2 : Nat) : Int) ∧ (∀ i, i < 32768 → J i = I i) ∧ ∀ S, isC (tB T b) b (cdC S) → ∀ u, u < 4096 → mS J 8 u = S u)) args s 0 0 (hm_A w s.heap.size)) (mM K w q ia ta J T b md td ag ((P + 2 : Nat) : Int)) 14 [(2, .int (iI (((0 : Nat) : Int)))), (1, .int (iI ((h : Int)))), (0, .ref (q))] []
          have hb : bv (tB T b) P 2 = 0 := by omega
          refine hv_iload_n E dX7_takePieces_14 rfl 0 rfl rfl ?_
          refine hv_if_eq E 23 dX7_takePieces_15 (by decide) ⟨by omega, by omega⟩ rfl (fun d1 => ?_) (fun d1 => ?_)
          · refine hv_aload_n E dX7_takePieces_23 rfl 2 rfl rfl ?_
            refine hv_bipush E dX7_takePieces_24 (by decide +kernel) rfl ?_
            refine hv_callVI (na := 1) (As := [.int (iI (8))]) (st := []) E (c7_takeNumber l D K (P0 := P + 2) (8) (by omega) (by omega) (by omega) hM hb0 hb1) dX7_takePieces_26 hM.1 (show vwCl[6]? = some (RX7, TX7, 7) from rfl) gL_X7_119 gV_X7_takeNumber gI_X7_takeNumber gC_X7_takeNumber gZ_X7 (by decide +kernel) rfl ⟨Nat.le_of_ble_eq_true rfl, Nat.le_of_ble_eq_true rfl⟩ (Nat.le_of_ble_eq_true rfl) ⟨Nat.zero_le _, Nat.zero_le _⟩ rfl rfl (fun r w2 hp => ?_)
            rw [mM_mM hm.n1 hm.n2 hm.n3, show (8 : Int).toNat = 8 by omega] at hp
            obtain ⟨NB, hNB⟩ : ∃ zz, zz = bv (tB T b) (P + 2) (8) := ⟨_, rfl⟩
            have hNBb := bv_lt (tB T b) (P + 2) (8)
            rw [← hNB] at hp hNBb
            rw [hp.1, hp.2]
            show hm_V p l e (hm_rm 3 0 0) s m args below meth c D (hm_A w s.heap.size) 8 0 0 (MQ below (hm_Qv D w s.heap.size (fun w2 => ∃ (J : Nat → Bool) (P2 : Nat), w2 = mM K w q ia ta J T b md td ag ((P2 : Nat) : Int) ∧ (∀ i, i < 32768 → J i = I i) ∧ ∀ S, isC (tB T b) b (cdC S) → ∀ u, u < 4096 → mS J 8 u = S u)) args s 0 0 (hm_A w s.heap.size)) (mM K w q ia ta J T b md td ag ((P + 2 + 8 : Nat) : Int)) 29 [(2, .int (iI (((0 : Nat) : Int)))), (1, .int (iI ((h : Int)))), (0, .ref (q))] [.int (iI ((NB : Int)))]
            clear hM
            have hM : mAt K (mM K w q ia ta J T b md td ag ((P + 2 + 8 : Nat) : Int)) q ia ta J T b md td ag ((P + 2 + 8 : Nat) : Int) := mAt_mM hm.n1 hm.n2 hm.n3
            refine hv_iconst E dX7_takePieces_29 rfl ?_
            refine hv_iadd E dX7_takePieces_30 rfl ?_
            refine hv_goto E 46 dX7_takePieces_31 (by decide) ?_
            refine hv_istore_n (lv2 := [(3, .int (iI (((NB : Int)) + 1))), (2, .int (iI (((0 : Nat) : Int)))), (1, .int (iI ((h : Int)))), (0, .ref (q))]) E dX7_takePieces_46 rfl (by decide) rfl rfl ?_
            refine hv_iconst E dX7_takePieces_47 rfl ?_
            refine hv_istore (lv2 := [(4, .int (iI (0))), (3, .int (iI (((NB : Int)) + 1))), (2, .int (iI (((0 : Nat) : Int)))), (1, .int (iI ((h : Int)))), (0, .ref (q))]) E dX7_takePieces_48 (by decide) rfl rfl ?_
            rw [show (NB : Int) + 1 = ((NB + 1 : Nat) : Int) by omega]
            refine hv_mem (show mM K w q ia ta J T b md td ag ((P + 2 + 8 : Nat) : Int) = mM K w q ia ta J T b md td ag ((P + 2 + 8 + 8 * 0 : Nat) : Int) from rfl) ?_
            show hm_V p l e (hm_rm 3 0 0) s m args below meth c D (hm_A w s.heap.size) 8 0 0 (MQ below (hm_Qv D w s.heap.size (fun w2 => ∃ (J : Nat → Bool) (P2 : Nat), w2 = mM K w q ia ta J T b md td ag ((P2 : Nat) : Int) ∧ (∀ i, i < 32768 → J i = I i) ∧ ∀ S, isC (tB T b) b (cdC S) → ∀ u, u < 4096 → mS J 8 u = S u)) args s 0 0 (hm_A w s.heap.size)) (mM K w q ia ta J T b md td ag ((P + 2 + 8 + 8 * 0 : Nat) : Int)) 50 [(4, .int (iI (((0 : Nat) : Int)))), (3, .int (iI (((NB + 1 : Nat) : Int)))), (2, .int (iI (((0 : Nat) : Int)))), (1, .int (iI ((h : Int)))), (0, .ref (q))] []
            clear hM
            rw [show (2 : Nat) ^ 8 = 256 from rfl] at hNBb
            have L2 : ∀ (k : Nat) (kk : Nat) (J2 : Nat → Bool), (((NB + 1 : Nat) : Int) - kk < (k : Int)) → (kk ≤ NB + 1) → (∀ i, i < 32768 → J2 i = I i) → (∀ u, 256 * h + 256 ≤ u → u < 4096 → mS J2 8 u = false) → (∀ S, isC (tB T b) b (cdC S) → ∃ j, lI (tB T b) (P + 2 + 8) (NB + 1) (256 * h) (mS J 8) (mS J2 8) j kk) → hm_V p l e (hm_rm 3 0 0) s m args below meth c D (hm_A w s.heap.size) 8 0 0 (MQ below (hm_Qv D w s.heap.size (fun w2 => ∃ (J : Nat → Bool) (P2 : Nat), w2 = mM K w q ia ta J T b md td ag ((P2 : Nat) : Int) ∧ (∀ i, i < 32768 → J i = I i) ∧ ∀ S, isC (tB T b) b (cdC S) → ∀ u, u < 4096 → mS J 8 u = S u)) args s 0 0 (hm_A w s.heap.size)) (mM K w q ia ta J2 T b md td ag ((P + 2 + 8 + 8 * kk : Nat) : Int)) 50 [(4, .int (iI ((kk : Int)))), (3, .int (iI (((NB + 1 : Nat) : Int)))), (2, .int (iI (((0 : Nat) : Int)))), (1, .int (iI ((h : Int)))), (0, .ref (q))] [] := by
              intro k
              induction k with
              | zero =>
                intro kk J2 hk2 kk1 hlo2 hup2 hE2
                exact absurd hk2 (by omega)
              | succ k ih =>
                intro kk J2 hk2 kk1 hlo2 hup2 hE2
                have hM : mAt K (mM K w q ia ta J2 T b md td ag ((P + 2 + 8 + 8 * kk : Nat) : Int)) q ia ta J2 T b md td ag ((P + 2 + 8 + 8 * kk : Nat) : Int) := mAt_mM hm.n1 hm.n2 hm.n3
                refine hv_iload E dX7_takePieces_50 0 rfl rfl ?_
                refine hv_iload_n E dX7_takePieces_52 rfl 1 rfl rfl ?_
                refine hv_icmp_ge E 164 dX7_takePieces_53 (by decide) ⟨by omega, by omega⟩ ⟨by omega, by omega⟩ rfl (fun c3 => ?_) (fun c3 => ?_)
                · have hkk : kk = NB + 1 := by omega
                  refine hv_iinc (lv2 := [(1, .int (iI (((h : Int)) + 1))), (4, .int (iI ((kk : Int)))), (3, .int (iI (((NB + 1 : Nat) : Int)))), (2, .int (iI (((0 : Nat) : Int)))), (0, .ref (q))]) E dX7_takePieces_164 3 rfl rfl (by decide) rfl rfl ?_
                  refine hv_goto E 2 dX7_takePieces_167 (by decide) ?_
                  show hm_V p l e (hm_rm 3 0 0) s m args below meth c D (hm_A w s.heap.size) 8 0 0 (MQ below (hm_Qv D w s.heap.size (fun w2 => ∃ (J : Nat → Bool) (P2 : Nat), w2 = mM K w q ia ta J T b md td ag ((P2 : Nat) : Int) ∧ (∀ i, i < 32768 → J i = I i) ∧ ∀ S, isC (tB T b) b (cdC S) → ∀ u, u < 4096 → mS J 8 u = S u)) args s 0 0 (hm_A w s.heap.size)) (mM K w q ia ta J2 T b md td ag ((P + 2 + 8 + 8 * kk : Nat) : Int)) 2 [(1, .int (iI (((h + 1 : Nat) : Int)))), (4, .int (iI ((kk : Int)))), (3, .int (iI (((NB + 1 : Nat) : Int)))), (2, .int (iI (((0 : Nat) : Int)))), (0, .ref (q))] []
                  refine hv_sub (lv2 := [(1, .int (iI (((h + 1 : Nat) : Int)))), (0, .ref (q))]) [0, 4] rfl ?_
                  exact ih0 (h + 1) (P + 2 + 8 + 8 * kk) J2 (by omega) (by omega) (by omega) hlo2 (fun u h1 h2 => hup2 u (by omega) h2) (fun S hS => (by
                      obtain ⟨j, hj⟩ := hE2 S hS
                      rw [hkk] at hj
                      have hj := lI_end hj (by omega)
                      rw [hNB] at hj
                      exact cI_m (hE S hS) hh hS (pE_0 hb hj (by rw [hkk, hNB]))))
                · refine hv_sipush E dX7_takePieces_56 (by decide +kernel) rfl ?_
                  refine hv_iload_n E dX7_takePieces_59 rfl 3 rfl rfl ?_
                  refine hv_imul E dX7_takePieces_60 rfl ?_
                  refine hv_iload_n E dX7_takePieces_61 rfl 2 rfl rfl ?_
                  refine hv_iconst E dX7_takePieces_62 rfl ?_
                  refine hv_icmp_ne E 71 dX7_takePieces_63 (by decide) ⟨by omega, by omega⟩ ⟨by omega, by omega⟩ rfl (fun d2 => ?_) (fun d2 => ?_)
                  · refine hv_aload_n E dX7_takePieces_71 rfl 4 rfl rfl ?_
                    refine hv_bipush E dX7_takePieces_72 (by decide +kernel) rfl ?_
                    refine hv_callVI (na := 1) (As := [.int (iI (8))]) (st := [.int (iI (256 * ((h : Int))))]) E (c7_takeNumber l D K (P0 := P + 2 + 8 + 8 * kk) (8) (by omega) (by omega) (by omega) hM hb0 hb1) dX7_takePieces_74 hM.1 (show vwCl[6]? = some (RX7, TX7, 7) from rfl) gL_X7_119 gV_X7_takeNumber gI_X7_takeNumber gC_X7_takeNumber gZ_X7 (by decide +kernel) rfl ⟨Nat.le_of_ble_eq_true rfl, Nat.le_of_ble_eq_true rfl⟩ (Nat.le_of_ble_eq_true rfl) ⟨Nat.zero_le _, Nat.zero_le _⟩ rfl rfl (fun r w2 hp => ?_)
                    rw [mM_mM hm.n1 hm.n2 hm.n3, show (8 : Int).toNat = 8 by omega] at hp
                    obtain ⟨B, hB⟩ : ∃ zz, zz = bv (tB T b) (P + 2 + 8 + 8 * kk) (8) := ⟨_, rfl⟩
                    have hBb := bv_lt (tB T b) (P + 2 + 8 + 8 * kk) (8)
                    rw [← hB] at hp hBb
                    rw [hp.1, hp.2]
                    show hm_V p l e (hm_rm 3 0 0) s m args below meth c D (hm_A w s.heap.size) 8 0 0 (MQ below (hm_Qv D w s.heap.size (fun w2 => ∃ (J : Nat → Bool) (P2 : Nat), w2 = mM K w q ia ta J T b md td ag ((P2 : Nat) : Int) ∧ (∀ i, i < 32768 → J i = I i) ∧ ∀ S, isC (tB T b) b (cdC S) → ∀ u, u < 4096 → mS J 8 u = S u)) args s 0 0 (hm_A w s.heap.size)) (mM K w q ia ta J2 T b md td ag ((P + 2 + 8 + 8 * kk + 8 : Nat) : Int)) 77 [(4, .int (iI ((kk : Int)))), (3, .int (iI (((NB + 1 : Nat) : Int)))), (2, .int (iI (((0 : Nat) : Int)))), (1, .int (iI ((h : Int)))), (0, .ref (q))] [.int (iI ((B : Int))), .int (iI (256 * ((h : Int))))]
                    rw [show (2 : Nat) ^ 8 = 256 from rfl] at hBb
                    clear hM
                    have hM : mAt K (mM K w q ia ta J2 T b md td ag ((P + 2 + 8 + 8 * kk + 8 : Nat) : Int)) q ia ta J2 T b md td ag ((P + 2 + 8 + 8 * kk + 8 : Nat) : Int) := mAt_mM hm.n1 hm.n2 hm.n3
                    refine hv_iadd E dX7_takePieces_77 rfl ?_
                    rw [show 256 * (h : Int) + (B : Int) = ((256 * h + B : Nat) : Int) by omega]
                    show hm_V p l e (hm_rm 3 0 0) s m args below meth c D (hm_A w s.heap.size) 8 0 0 (MQ below (hm_Qv D w s.heap.size (fun w2 => ∃ (J : Nat → Bool) (P2 : Nat), w2 = mM K w q ia ta J T b md td ag ((P2 : Nat) : Int) ∧ (∀ i, i < 32768 → J i = I i) ∧ ∀ S, isC (tB T b) b (cdC S) → ∀ u, u < 4096 → mS J 8 u = S u)) args s 0 0 (hm_A w s.heap.size)) (mM K w q ia ta J2 T b md td ag ((P + 2 + 8 + 8 * kk + 8 : Nat) : Int)) 78 [(4, .int (iI ((kk : Int)))), (3, .int (iI (((NB + 1 : Nat) : Int)))), (2, .int (iI (((0 : Nat) : Int)))), (1, .int (iI ((h : Int)))), (0, .ref (q))] [.int (iI (((256 * h + B : Nat) : Int)))]
                    refine hv_istore (lv2 := [(5, .int (iI (((256 * h + B : Nat) : Int)))), (4, .int (iI ((kk : Int)))), (3, .int (iI (((NB + 1 : Nat) : Int)))), (2, .int (iI (((0 : Nat) : Int)))), (1, .int (iI ((h : Int)))), (0, .ref (q))]) E dX7_takePieces_78 (by decide) rfl rfl ?_
                    refine hv_iload_n E dX7_takePieces_80 rfl 3 rfl rfl ?_
                    refine hv_iconst E dX7_takePieces_81 rfl ?_
                    refine hv_icmp_ne E 96 dX7_takePieces_82 (by decide) ⟨by omega, by omega⟩ ⟨by omega, by omega⟩ rfl (fun d3 => ?_) (fun d3 => ?_)
                    · refine hv_iload_n E dX7_takePieces_96 rfl 3 rfl rfl ?_
                      refine hv_if_ne E 104 dX7_takePieces_97 (by decide) ⟨by omega, by omega⟩ rfl (fun d4 => ?_) (fun d4 => ?_)
                      · exact absurd d4 (by omega)
                      · refine hv_iconst E dX7_takePieces_100 rfl ?_
                        refine hv_goto E 116 dX7_takePieces_101 (by decide) ?_
                        refine hv_istore (lv2 := [(6, .int (iI (1))), (5, .int (iI (((256 * h + B : Nat) : Int)))), (4, .int (iI ((kk : Int)))), (3, .int (iI (((NB + 1 : Nat) : Int)))), (2, .int (iI (((0 : Nat) : Int)))), (1, .int (iI ((h : Int)))), (0, .ref (q))]) E dX7_takePieces_116 (by decide) rfl rfl ?_
                        show hm_V p l e (hm_rm 3 0 0) s m args below meth c D (hm_A w s.heap.size) 8 0 0 (MQ below (hm_Qv D w s.heap.size (fun w2 => ∃ (J : Nat → Bool) (P2 : Nat), w2 = mM K w q ia ta J T b md td ag ((P2 : Nat) : Int) ∧ (∀ i, i < 32768 → J i = I i) ∧ ∀ S, isC (tB T b) b (cdC S) → ∀ u, u < 4096 → mS J 8 u = S u)) args s 0 0 (hm_A w s.heap.size)) (mM K w q ia ta J2 T b md td ag ((P + 2 + 8 + 8 * kk + 8 : Nat) : Int)) 118 [(6, .int (iI (((1 : Nat) : Int)))), (5, .int (iI (((256 * h + B : Nat) : Int)))), (4, .int (iI ((kk : Int)))), (3, .int (iI (((NB + 1 : Nat) : Int)))), (2, .int (iI (((0 : Nat) : Int)))), (1, .int (iI ((h : Int)))), (0, .ref (q))] []
                        refine hv_iconst E dX7_takePieces_118 rfl ?_
                        refine hv_istore (lv2 := [(7, .int (iI (0))), (6, .int (iI (((1 : Nat) : Int)))), (5, .int (iI (((256 * h + B : Nat) : Int)))), (4, .int (iI ((kk : Int)))), (3, .int (iI (((NB + 1 : Nat) : Int)))), (2, .int (iI (((0 : Nat) : Int)))), (1, .int (iI ((h : Int)))), (0, .ref (q))]) E dX7_takePieces_119 (by decide) rfl rfl ?_
                        show hm_V p l e (hm_rm 3 0 0) s m args below meth c D (hm_A w s.heap.size) 8 0 0 (MQ below (hm_Qv D w s.heap.size (fun w2 => ∃ (J : Nat → Bool) (P2 : Nat), w2 = mM K w q ia ta J T b md td ag ((P2 : Nat) : Int) ∧ (∀ i, i < 32768 → J i = I i) ∧ ∀ S, isC (tB T b) b (cdC S) → ∀ u, u < 4096 → mS J 8 u = S u)) args s 0 0 (hm_A w s.heap.size)) (mM K w q ia ta J2 T b md td ag ((P + 2 + 8 + 8 * kk + 8 : Nat) : Int)) 121 [(7, .int (iI (((0 : Nat) : Int)))), (6, .int (iI (((1 : Nat) : Int)))), (5, .int (iI (((256 * h + B : Nat) : Int)))), (4, .int (iI ((kk : Int)))), (3, .int (iI (((NB + 1 : Nat) : Int)))), (2, .int (iI (((0 : Nat) : Int)))), (1, .int (iI ((h : Int)))), (0, .ref (q))] []
                        have ih1 := ih
                        have L3 : ∀ (k : Nat) (i : Nat) (J3 : Nat → Bool), (((1 : Nat) : Int) - i < (k : Int)) → (i ≤ 1) → (B + i ≤ 256) → (∀ u, u < 32768 → J3 u = I u) → (∀ u, mS J3 8 u = (mS J2 8 u || decide (256 * h + B ≤ u ∧ u < 256 * h + (B + i)))) → hm_V p l e (hm_rm 3 0 0) s m args below meth c D (hm_A w s.heap.size) 8 0 0 (MQ below (hm_Qv D w s.heap.size (fun w2 => ∃ (J : Nat → Bool) (P2 : Nat), w2 = mM K w q ia ta J T b md td ag ((P2 : Nat) : Int) ∧ (∀ i, i < 32768 → J i = I i) ∧ ∀ S, isC (tB T b) b (cdC S) → ∀ u, u < 4096 → mS J 8 u = S u)) args s 0 0 (hm_A w s.heap.size)) (mM K w q ia ta J3 T b md td ag ((P + 2 + 8 + 8 * kk + 8 : Nat) : Int)) 121 [(7, .int (iI ((i : Int)))), (6, .int (iI (((1 : Nat) : Int)))), (5, .int (iI (((256 * h + B : Nat) : Int)))), (4, .int (iI ((kk : Int)))), (3, .int (iI (((NB + 1 : Nat) : Int)))), (2, .int (iI (((0 : Nat) : Int)))), (1, .int (iI ((h : Int)))), (0, .ref (q))] [] := by
                          intro k
                          induction k with
                          | zero =>
                            intro i J3 hk3 i1 i2 hlo3 hJ3
                            exact absurd hk3 (by omega)
                          | succ k ih =>
                            intro i J3 hk3 i1 i2 hlo3 hJ3
                            have hM : mAt K (mM K w q ia ta J3 T b md td ag ((P + 2 + 8 + 8 * kk + 8 : Nat) : Int)) q ia ta J3 T b md td ag ((P + 2 + 8 + 8 * kk + 8 : Nat) : Int) := mAt_mM hm.n1 hm.n2 hm.n3
                            refine hv_iload E dX7_takePieces_121 0 rfl rfl ?_
                            refine hv_iload E dX7_takePieces_123 1 rfl rfl ?_
                            refine hv_icmp_ge E 158 dX7_takePieces_125 (by decide) ⟨by omega, by omega⟩ ⟨by omega, by omega⟩ rfl (fun c6 => ?_) (fun c6 => ?_)
                            · have hi : i = 1 ∨ B + i = 256 := Or.inl (by omega)
                              refine hv_iinc (lv2 := [(4, .int (iI (((kk : Int)) + 1))), (7, .int (iI ((i : Int)))), (6, .int (iI (((1 : Nat) : Int)))), (5, .int (iI (((256 * h + B : Nat) : Int)))), (3, .int (iI (((NB + 1 : Nat) : Int)))), (2, .int (iI (((0 : Nat) : Int)))), (1, .int (iI ((h : Int)))), (0, .ref (q))]) E dX7_takePieces_158 3 rfl rfl (by decide) rfl rfl ?_
                              refine hv_goto E 50 dX7_takePieces_161 (by decide) ?_
                              rw [show P + 2 + 8 + 8 * kk + 8 = P + 2 + 8 + 8 * (kk + 1) by omega]
                              show hm_V p l e (hm_rm 3 0 0) s m args below meth c D (hm_A w s.heap.size) 8 0 0 (MQ below (hm_Qv D w s.heap.size (fun w2 => ∃ (J : Nat → Bool) (P2 : Nat), w2 = mM K w q ia ta J T b md td ag ((P2 : Nat) : Int) ∧ (∀ i, i < 32768 → J i = I i) ∧ ∀ S, isC (tB T b) b (cdC S) → ∀ u, u < 4096 → mS J 8 u = S u)) args s 0 0 (hm_A w s.heap.size)) (mM K w q ia ta J3 T b md td ag ((P + 2 + 8 + 8 * (kk + 1) : Nat) : Int)) 50 [(4, .int (iI (((kk + 1 : Nat) : Int)))), (7, .int (iI ((i : Int)))), (6, .int (iI (((1 : Nat) : Int)))), (5, .int (iI (((256 * h + B : Nat) : Int)))), (3, .int (iI (((NB + 1 : Nat) : Int)))), (2, .int (iI (((0 : Nat) : Int)))), (1, .int (iI ((h : Int)))), (0, .ref (q))] []
                              refine hv_sub (lv2 := [(4, .int (iI (((kk + 1 : Nat) : Int)))), (3, .int (iI (((NB + 1 : Nat) : Int)))), (2, .int (iI (((0 : Nat) : Int)))), (1, .int (iI ((h : Int)))), (0, .ref (q))]) [0, 4, 5, 6, 7] rfl ?_
                              exact ih1 (kk + 1) J3 (by omega) (by omega) hlo3 (fun u h1 h2 => by rw [hJ3 u, hup2 u h1 h2, decide_eq_false (by omega)]; rfl) (fun S hS => (by
                                    have hi0 : i = 1 := by omega
                                    obtain ⟨j, hj⟩ := hE2 S hS
                                    obtain ⟨s1, s2⟩ := pS_0 (cI_nx (hE S hS) hh hS) hb
                                    rw [← hNB] at s2
                                    have h9 := (lI_nx hj (by omega) (by omega) s1 s2).1
                                    rw [← hB] at h9
                                    exact ⟨B + 1, lI_step hj (by omega) (by omega) (by omega) hB h9 (fun u => by rw [hJ3 u]; congr 1; exact decide_eq_decide.mpr (by omega))⟩))
                            · refine hv_iload E dX7_takePieces_128 2 rfl rfl ?_
                              refine hv_sipush E dX7_takePieces_130 (by decide +kernel) rfl ?_
                              refine hv_iremR E dX7_takePieces_133 (by decide +kernel) rfl rfl ?_
                              refine hv_topi (show (iI (((256 * h + B : Nat) : Int))) - (iI (((256 * h + B : Nat) : Int))) / (iI (256)) * (iI (256)) = iI ((((256 * h + B : Nat) : Int) % 256)) from iI_rem256 (by omega) (by omega)) ?_
                              refine hv_iload E dX7_takePieces_134 0 rfl rfl ?_
                              refine hv_iadd E dX7_takePieces_136 rfl ?_
                              refine hv_sipush E dX7_takePieces_137 (by decide +kernel) rfl ?_
                              refine hv_icmp_ge E 158 dX7_takePieces_140 (by decide) ⟨by omega, by omega⟩ ⟨by omega, by omega⟩ rfl (fun c7 => ?_) (fun c7 => ?_)
                              · have hi : i = 1 ∨ B + i = 256 := Or.inr (by omega)
                                refine hv_iinc (lv2 := [(4, .int (iI (((kk : Int)) + 1))), (7, .int (iI ((i : Int)))), (6, .int (iI (((1 : Nat) : Int)))), (5, .int (iI (((256 * h + B : Nat) : Int)))), (3, .int (iI (((NB + 1 : Nat) : Int)))), (2, .int (iI (((0 : Nat) : Int)))), (1, .int (iI ((h : Int)))), (0, .ref (q))]) E dX7_takePieces_158 3 rfl rfl (by decide) rfl rfl ?_
                                refine hv_goto E 50 dX7_takePieces_161 (by decide) ?_
                                rw [show P + 2 + 8 + 8 * kk + 8 = P + 2 + 8 + 8 * (kk + 1) by omega]
                                show hm_V p l e (hm_rm 3 0 0) s m args below meth c D (hm_A w s.heap.size) 8 0 0 (MQ below (hm_Qv D w s.heap.size (fun w2 => ∃ (J : Nat → Bool) (P2 : Nat), w2 = mM K w q ia ta J T b md td ag ((P2 : Nat) : Int) ∧ (∀ i, i < 32768 → J i = I i) ∧ ∀ S, isC (tB T b) b (cdC S) → ∀ u, u < 4096 → mS J 8 u = S u)) args s 0 0 (hm_A w s.heap.size)) (mM K w q ia ta J3 T b md td ag ((P + 2 + 8 + 8 * (kk + 1) : Nat) : Int)) 50 [(4, .int (iI (((kk + 1 : Nat) : Int)))), (7, .int (iI ((i : Int)))), (6, .int (iI (((1 : Nat) : Int)))), (5, .int (iI (((256 * h + B : Nat) : Int)))), (3, .int (iI (((NB + 1 : Nat) : Int)))), (2, .int (iI (((0 : Nat) : Int)))), (1, .int (iI ((h : Int)))), (0, .ref (q))] []
                                refine hv_sub (lv2 := [(4, .int (iI (((kk + 1 : Nat) : Int)))), (3, .int (iI (((NB + 1 : Nat) : Int)))), (2, .int (iI (((0 : Nat) : Int)))), (1, .int (iI ((h : Int)))), (0, .ref (q))]) [0, 4, 5, 6, 7] rfl ?_
                                exact ih1 (kk + 1) J3 (by omega) (by omega) hlo3 (fun u h1 h2 => by rw [hJ3 u, hup2 u h1 h2, decide_eq_false (by omega)]; rfl) (fun S hS => (by
                                      have hi0 : i = 1 := by omega
                                      obtain ⟨j, hj⟩ := hE2 S hS
                                      obtain ⟨s1, s2⟩ := pS_0 (cI_nx (hE S hS) hh hS) hb
                                      rw [← hNB] at s2
                                      have h9 := (lI_nx hj (by omega) (by omega) s1 s2).1
                                      rw [← hB] at h9
                                      exact ⟨B + 1, lI_step hj (by omega) (by omega) (by omega) hB h9 (fun u => by rw [hJ3 u]; congr 1; exact decide_eq_decide.mpr (by omega))⟩))
                              · refine hv_aload_n E dX7_takePieces_143 rfl 7 rfl rfl ?_
                                refine hv_iload E dX7_takePieces_144 2 rfl rfl ?_
                                refine hv_iload E dX7_takePieces_146 0 rfl rfl ?_
                                refine hv_iadd E dX7_takePieces_148 rfl ?_
                                refine hv_callVV (na := 1) (As := [.int (iI ((((256 * h + B : Nat) : Int)) + ((i : Int))))]) (st := []) E (c7_mark l D K (((256 * h + B : Nat) : Int) + (i : Int)) ⟨by omega, by omega⟩ hM) dX7_takePieces_149 hM.1 (show vwCl[6]? = some (RX7, TX7, 7) from rfl) gL_X7_122 gV_X7_mark gI_X7_mark gC_X7_mark gZ_X7 (by decide +kernel) rfl ⟨Nat.le_of_ble_eq_true rfl, Nat.le_of_ble_eq_true rfl⟩ (Nat.le_of_ble_eq_true rfl) ⟨Nat.zero_le _, Nat.zero_le _⟩ rfl rfl (fun w2 hp => ?_)
                                rw [mM_mM hm.n1 hm.n2 hm.n3] at hp
                                obtain ⟨J4, hJ4⟩ : ∃ zz, zz = mk J3 (((256 * h + B : Nat) : Int) + (i : Int)) := ⟨_, rfl⟩
                                rw [← hJ4] at hp
                                rw [hp]
                                show hm_V p l e (hm_rm 3 0 0) s m args below meth c D (hm_A w s.heap.size) 8 0 0 (MQ below (hm_Qv D w s.heap.size (fun w2 => ∃ (J : Nat → Bool) (P2 : Nat), w2 = mM K w q ia ta J T b md td ag ((P2 : Nat) : Int) ∧ (∀ i, i < 32768 → J i = I i) ∧ ∀ S, isC (tB T b) b (cdC S) → ∀ u, u < 4096 → mS J 8 u = S u)) args s 0 0 (hm_A w s.heap.size)) (mM K w q ia ta J4 T b md td ag ((P + 2 + 8 + 8 * kk + 8 : Nat) : Int)) 152 [(7, .int (iI ((i : Int)))), (6, .int (iI (((1 : Nat) : Int)))), (5, .int (iI (((256 * h + B : Nat) : Int)))), (4, .int (iI ((kk : Int)))), (3, .int (iI (((NB + 1 : Nat) : Int)))), (2, .int (iI (((0 : Nat) : Int)))), (1, .int (iI ((h : Int)))), (0, .ref (q))] []
                                refine hv_iinc (lv2 := [(7, .int (iI (((i : Int)) + 1))), (6, .int (iI (((1 : Nat) : Int)))), (5, .int (iI (((256 * h + B : Nat) : Int)))), (4, .int (iI ((kk : Int)))), (3, .int (iI (((NB + 1 : Nat) : Int)))), (2, .int (iI (((0 : Nat) : Int)))), (1, .int (iI ((h : Int)))), (0, .ref (q))]) E dX7_takePieces_152 0 rfl rfl (by decide) rfl rfl ?_
                                refine hv_goto E 121 dX7_takePieces_155 (by decide) ?_
                                show hm_V p l e (hm_rm 3 0 0) s m args below meth c D (hm_A w s.heap.size) 8 0 0 (MQ below (hm_Qv D w s.heap.size (fun w2 => ∃ (J : Nat → Bool) (P2 : Nat), w2 = mM K w q ia ta J T b md td ag ((P2 : Nat) : Int) ∧ (∀ i, i < 32768 → J i = I i) ∧ ∀ S, isC (tB T b) b (cdC S) → ∀ u, u < 4096 → mS J 8 u = S u)) args s 0 0 (hm_A w s.heap.size)) (mM K w q ia ta J4 T b md td ag ((P + 2 + 8 + 8 * kk + 8 : Nat) : Int)) 121 [(7, .int (iI (((i + 1 : Nat) : Int)))), (6, .int (iI (((1 : Nat) : Int)))), (5, .int (iI (((256 * h + B : Nat) : Int)))), (4, .int (iI ((kk : Int)))), (3, .int (iI (((NB + 1 : Nat) : Int)))), (2, .int (iI (((0 : Nat) : Int)))), (1, .int (iI ((h : Int)))), (0, .ref (q))] []
                                refine hv_sub (lv2 := [(7, .int (iI (((i + 1 : Nat) : Int)))), (6, .int (iI (((1 : Nat) : Int)))), (5, .int (iI (((256 * h + B : Nat) : Int)))), (4, .int (iI ((kk : Int)))), (3, .int (iI (((NB + 1 : Nat) : Int)))), (2, .int (iI (((0 : Nat) : Int)))), (1, .int (iI ((h : Int)))), (0, .ref (q))]) [0, 1, 2, 3, 4, 5, 6, 7] rfl ?_
                                exact ih (i + 1) J4 (by omega) (by omega) (by omega) (fun u hu => by rw [hJ4, mk_lo hu]; exact hlo3 u hu) (fun u => by
                                      rw [hJ4, show ((256 * h + B : Nat) : Int) + (i : Int) = ((256 * h + B + i : Nat) : Int) by omega, mk_sp (by omega), hJ3 u, Bool.or_assoc]
                                      congr 1
                                      by_cases q1 : u = 256 * h + B + i
                                      · rw [decide_eq_true q1, Bool.or_true, decide_eq_true (by omega)]
                                      · rw [decide_eq_false q1, Bool.or_false]; exact decide_eq_decide.mpr (by omega))
                        refine hv_sub (lv2 := [(7, .int (iI (((0 : Nat) : Int)))), (6, .int (iI (((1 : Nat) : Int)))), (5, .int (iI (((256 * h + B : Nat) : Int)))), (4, .int (iI ((kk : Int)))), (3, .int (iI (((NB + 1 : Nat) : Int)))), (2, .int (iI (((0 : Nat) : Int)))), (1, .int (iI ((h : Int)))), (0, .ref (q))]) [0, 1, 2, 3, 4, 5, 6, 7] rfl ?_
                        exact L3 (1 + 1) 0 J2 (by omega) (by omega) (by omega) hlo2 (fun u => by rw [decide_eq_false (by omega), Bool.or_false])
                    · exact absurd d3 (by omega)
                  · exact absurd d2 (by omega)
            refine hv_sub (lv2 := [(4, .int (iI (((0 : Nat) : Int)))), (3, .int (iI (((NB + 1 : Nat) : Int)))), (2, .int (iI (((0 : Nat) : Int)))), (1, .int (iI ((h : Int)))), (0, .ref (q))]) [0, 1, 2, 3, 4] rfl ?_
            exact L2 (NB + 1 + 1) 0 J (by omega) (by omega) hlo (fun u h1 h2 => hup u (by omega) h2) (fun S hS => ⟨0, lI_0 hup⟩)
          · exact absurd d1 (by omega)
        · rw [hF]
          show hm_V p l e (hm_rm 3 0 0) s m args below meth c D (hm_A w s.heap.size) 8 0 0 (MQ below (hm_Qv D w s.heap.size (fun w2 => ∃ (J : Nat → Bool) (P2 : Nat), w2 = mM K w q ia ta J T b md td ag ((P2 : Nat) : Int) ∧ (∀ i, i < 32768 → J i = I i) ∧ ∀ S, isC (tB T b) b (cdC S) → ∀ u, u < 4096 → mS J 8 u = S u)) args s 0 0 (hm_A w s.heap.size)) (mM K w q ia ta J T b md td ag ((P + 2 : Nat) : Int)) 14 [(2, .int (iI (((1 : Nat) : Int)))), (1, .int (iI ((h : Int)))), (0, .ref (q))] []
          have hb : bv (tB T b) P 2 = 1 := by omega
          refine hv_iload_n E dX7_takePieces_14 rfl 0 rfl rfl ?_
          refine hv_if_eq E 23 dX7_takePieces_15 (by decide) ⟨by omega, by omega⟩ rfl (fun d5 => ?_) (fun d5 => ?_)
          · exact absurd d5 (by omega)
          · refine hv_iload_n E dX7_takePieces_18 rfl 0 rfl rfl ?_
            refine hv_iconst E dX7_takePieces_19 rfl ?_
            refine hv_icmp_ne E 34 dX7_takePieces_20 (by decide) ⟨by omega, by omega⟩ ⟨by omega, by omega⟩ rfl (fun d6 => ?_) (fun d6 => ?_)
            · refine hv_iload_n E dX7_takePieces_34 rfl 0 rfl rfl ?_
              refine hv_iconst E dX7_takePieces_35 rfl ?_
              refine hv_icmp_ne E 45 dX7_takePieces_36 (by decide) ⟨by omega, by omega⟩ ⟨by omega, by omega⟩ rfl (fun d7 => ?_) (fun d7 => ?_)
              · exact absurd d7 (by omega)
              · refine hv_sipush E dX7_takePieces_39 (by decide +kernel) rfl ?_
                refine hv_goto E 46 dX7_takePieces_42 (by decide) ?_
                refine hv_istore_n (lv2 := [(3, .int (iI (256))), (2, .int (iI (((1 : Nat) : Int)))), (1, .int (iI ((h : Int)))), (0, .ref (q))]) E dX7_takePieces_46 rfl (by decide) rfl rfl ?_
                show hm_V p l e (hm_rm 3 0 0) s m args below meth c D (hm_A w s.heap.size) 8 0 0 (MQ below (hm_Qv D w s.heap.size (fun w2 => ∃ (J : Nat → Bool) (P2 : Nat), w2 = mM K w q ia ta J T b md td ag ((P2 : Nat) : Int) ∧ (∀ i, i < 32768 → J i = I i) ∧ ∀ S, isC (tB T b) b (cdC S) → ∀ u, u < 4096 → mS J 8 u = S u)) args s 0 0 (hm_A w s.heap.size)) (mM K w q ia ta J T b md td ag ((P + 2 : Nat) : Int)) 47 [(3, .int (iI (((256 : Nat) : Int)))), (2, .int (iI (((1 : Nat) : Int)))), (1, .int (iI ((h : Int)))), (0, .ref (q))] []
                refine hv_iconst E dX7_takePieces_47 rfl ?_
                refine hv_istore (lv2 := [(4, .int (iI (0))), (3, .int (iI (((256 : Nat) : Int)))), (2, .int (iI (((1 : Nat) : Int)))), (1, .int (iI ((h : Int)))), (0, .ref (q))]) E dX7_takePieces_48 (by decide) rfl rfl ?_
                refine hv_mem (show mM K w q ia ta J T b md td ag ((P + 2 : Nat) : Int) = mM K w q ia ta J T b md td ag ((P + 2 + 0 : Nat) : Int) from rfl) ?_
                show hm_V p l e (hm_rm 3 0 0) s m args below meth c D (hm_A w s.heap.size) 8 0 0 (MQ below (hm_Qv D w s.heap.size (fun w2 => ∃ (J : Nat → Bool) (P2 : Nat), w2 = mM K w q ia ta J T b md td ag ((P2 : Nat) : Int) ∧ (∀ i, i < 32768 → J i = I i) ∧ ∀ S, isC (tB T b) b (cdC S) → ∀ u, u < 4096 → mS J 8 u = S u)) args s 0 0 (hm_A w s.heap.size)) (mM K w q ia ta J T b md td ag ((P + 2 + 0 : Nat) : Int)) 50 [(4, .int (iI (((0 : Nat) : Int)))), (3, .int (iI (((256 : Nat) : Int)))), (2, .int (iI (((1 : Nat) : Int)))), (1, .int (iI ((h : Int)))), (0, .ref (q))] []
                clear hM
                have L2 : ∀ (k : Nat) (kk : Nat) (J2 : Nat → Bool), (((256 : Nat) : Int) - kk < (k : Int)) → (kk ≤ 256) → (∀ i, i < 32768 → J2 i = I i) → (∀ u, 256 * h + 256 ≤ u → u < 4096 → mS J2 8 u = false) → (bI1 (tB T b) (P + 2) (256 * h) (mS J 8) (mS J2 8) kk) → hm_V p l e (hm_rm 3 0 0) s m args below meth c D (hm_A w s.heap.size) 8 0 0 (MQ below (hm_Qv D w s.heap.size (fun w2 => ∃ (J : Nat → Bool) (P2 : Nat), w2 = mM K w q ia ta J T b md td ag ((P2 : Nat) : Int) ∧ (∀ i, i < 32768 → J i = I i) ∧ ∀ S, isC (tB T b) b (cdC S) → ∀ u, u < 4096 → mS J 8 u = S u)) args s 0 0 (hm_A w s.heap.size)) (mM K w q ia ta J2 T b md td ag ((P + 2 + kk : Nat) : Int)) 50 [(4, .int (iI ((kk : Int)))), (3, .int (iI (((256 : Nat) : Int)))), (2, .int (iI (((1 : Nat) : Int)))), (1, .int (iI ((h : Int)))), (0, .ref (q))] [] := by
                  intro k
                  induction k with
                  | zero =>
                    intro kk J2 hk2 kk1 hlo2 hup2 hE2
                    exact absurd hk2 (by omega)
                  | succ k ih =>
                    intro kk J2 hk2 kk1 hlo2 hup2 hE2
                    have hM : mAt K (mM K w q ia ta J2 T b md td ag ((P + 2 + kk : Nat) : Int)) q ia ta J2 T b md td ag ((P + 2 + kk : Nat) : Int) := mAt_mM hm.n1 hm.n2 hm.n3
                    refine hv_iload E dX7_takePieces_50 0 rfl rfl ?_
                    refine hv_iload_n E dX7_takePieces_52 rfl 1 rfl rfl ?_
                    refine hv_icmp_ge E 164 dX7_takePieces_53 (by decide) ⟨by omega, by omega⟩ ⟨by omega, by omega⟩ rfl (fun c3 => ?_) (fun c3 => ?_)
                    · have hkk : kk = 256 := by omega
                      refine hv_iinc (lv2 := [(1, .int (iI (((h : Int)) + 1))), (4, .int (iI ((kk : Int)))), (3, .int (iI (((256 : Nat) : Int)))), (2, .int (iI (((1 : Nat) : Int)))), (0, .ref (q))]) E dX7_takePieces_164 3 rfl rfl (by decide) rfl rfl ?_
                      refine hv_goto E 2 dX7_takePieces_167 (by decide) ?_
                      show hm_V p l e (hm_rm 3 0 0) s m args below meth c D (hm_A w s.heap.size) 8 0 0 (MQ below (hm_Qv D w s.heap.size (fun w2 => ∃ (J : Nat → Bool) (P2 : Nat), w2 = mM K w q ia ta J T b md td ag ((P2 : Nat) : Int) ∧ (∀ i, i < 32768 → J i = I i) ∧ ∀ S, isC (tB T b) b (cdC S) → ∀ u, u < 4096 → mS J 8 u = S u)) args s 0 0 (hm_A w s.heap.size)) (mM K w q ia ta J2 T b md td ag ((P + 2 + kk : Nat) : Int)) 2 [(1, .int (iI (((h + 1 : Nat) : Int)))), (4, .int (iI ((kk : Int)))), (3, .int (iI (((256 : Nat) : Int)))), (2, .int (iI (((1 : Nat) : Int)))), (0, .ref (q))] []
                      refine hv_sub (lv2 := [(1, .int (iI (((h + 1 : Nat) : Int)))), (0, .ref (q))]) [0, 4] rfl ?_
                      exact ih0 (h + 1) (P + 2 + kk) J2 (by omega) (by omega) (by omega) hlo2 (fun u h1 h2 => hup2 u (by omega) h2) (fun S hS => cI_m (hE S hS) hh hS (pE_1 hb (by rw [hkk] at hE2; exact hE2) (by rw [hkk])))
                    · refine hv_sipush E dX7_takePieces_56 (by decide +kernel) rfl ?_
                      refine hv_iload_n E dX7_takePieces_59 rfl 3 rfl rfl ?_
                      refine hv_imul E dX7_takePieces_60 rfl ?_
                      refine hv_iload_n E dX7_takePieces_61 rfl 2 rfl rfl ?_
                      refine hv_iconst E dX7_takePieces_62 rfl ?_
                      refine hv_icmp_ne E 71 dX7_takePieces_63 (by decide) ⟨by omega, by omega⟩ ⟨by omega, by omega⟩ rfl (fun d8 => ?_) (fun d8 => ?_)
                      · exact absurd d8 (by omega)
                      · refine hv_iload E dX7_takePieces_66 0 rfl rfl ?_
                        refine hv_goto E 77 dX7_takePieces_68 (by decide) ?_
                        refine hv_iadd E dX7_takePieces_77 rfl ?_
                        rw [show 256 * (h : Int) + (kk : Int) = ((256 * h + kk : Nat) : Int) by omega]
                        show hm_V p l e (hm_rm 3 0 0) s m args below meth c D (hm_A w s.heap.size) 8 0 0 (MQ below (hm_Qv D w s.heap.size (fun w2 => ∃ (J : Nat → Bool) (P2 : Nat), w2 = mM K w q ia ta J T b md td ag ((P2 : Nat) : Int) ∧ (∀ i, i < 32768 → J i = I i) ∧ ∀ S, isC (tB T b) b (cdC S) → ∀ u, u < 4096 → mS J 8 u = S u)) args s 0 0 (hm_A w s.heap.size)) (mM K w q ia ta J2 T b md td ag ((P + 2 + kk : Nat) : Int)) 78 [(4, .int (iI ((kk : Int)))), (3, .int (iI (((256 : Nat) : Int)))), (2, .int (iI (((1 : Nat) : Int)))), (1, .int (iI ((h : Int)))), (0, .ref (q))] [.int (iI (((256 * h + kk : Nat) : Int)))]
                        refine hv_istore (lv2 := [(5, .int (iI (((256 * h + kk : Nat) : Int)))), (4, .int (iI ((kk : Int)))), (3, .int (iI (((256 : Nat) : Int)))), (2, .int (iI (((1 : Nat) : Int)))), (1, .int (iI ((h : Int)))), (0, .ref (q))]) E dX7_takePieces_78 (by decide) rfl rfl ?_
                        refine hv_iload_n E dX7_takePieces_80 rfl 3 rfl rfl ?_
                        refine hv_iconst E dX7_takePieces_81 rfl ?_
                        refine hv_icmp_ne E 96 dX7_takePieces_82 (by decide) ⟨by omega, by omega⟩ ⟨by omega, by omega⟩ rfl (fun d9 => ?_) (fun d9 => ?_)
                        · refine hv_iload_n E dX7_takePieces_96 rfl 3 rfl rfl ?_
                          refine hv_if_ne E 104 dX7_takePieces_97 (by decide) ⟨by omega, by omega⟩ rfl (fun d10 => ?_) (fun d10 => ?_)
                          · refine hv_aload_n E dX7_takePieces_104 rfl 5 rfl rfl ?_
                            refine hv_callVI (na := 0) (As := []) (st := []) E (c7_take l D K (P0 := P + 2 + kk) (by omega) hM hb0 hb1) dX7_takePieces_105 hM.1 (show vwCl[6]? = some (RX7, TX7, 7) from rfl) gL_X7_105 gV_X7_take gI_X7_take gC_X7_take gZ_X7 (by decide +kernel) rfl ⟨Nat.le_of_ble_eq_true rfl, Nat.le_of_ble_eq_true rfl⟩ (Nat.le_of_ble_eq_true rfl) ⟨Nat.zero_le _, Nat.zero_le _⟩ rfl rfl (fun r w2 hp => ?_)
                            rw [mM_mM hm.n1 hm.n2 hm.n3] at hp
                            rw [hp.1, hp.2]
                            show hm_V p l e (hm_rm 3 0 0) s m args below meth c D (hm_A w s.heap.size) 8 0 0 (MQ below (hm_Qv D w s.heap.size (fun w2 => ∃ (J : Nat → Bool) (P2 : Nat), w2 = mM K w q ia ta J T b md td ag ((P2 : Nat) : Int) ∧ (∀ i, i < 32768 → J i = I i) ∧ ∀ S, isC (tB T b) b (cdC S) → ∀ u, u < 4096 → mS J 8 u = S u)) args s 0 0 (hm_A w s.heap.size)) (mM K w q ia ta J2 T b md td ag ((P + 2 + kk + 1 : Nat) : Int)) 108 [(5, .int (iI (((256 * h + kk : Nat) : Int)))), (4, .int (iI ((kk : Int)))), (3, .int (iI (((256 : Nat) : Int)))), (2, .int (iI (((1 : Nat) : Int)))), (1, .int (iI ((h : Int)))), (0, .ref (q))] [.int (bI (tB T b (P + 2 + kk)))]
                            clear hM
                            have hM : mAt K (mM K w q ia ta J2 T b md td ag ((P + 2 + kk + 1 : Nat) : Int)) q ia ta J2 T b md td ag ((P + 2 + kk + 1 : Nat) : Int) := mAt_mM hm.n1 hm.n2 hm.n3
                            refine hv_if_eqB E 115 dX7_takePieces_108 (by decide) rfl (fun c4 => ?_) (fun c4 => ?_)
                            · refine hv_iconst E dX7_takePieces_115 rfl ?_
                              refine hv_istore (lv2 := [(6, .int (iI (0))), (5, .int (iI (((256 * h + kk : Nat) : Int)))), (4, .int (iI ((kk : Int)))), (3, .int (iI (((256 : Nat) : Int)))), (2, .int (iI (((1 : Nat) : Int)))), (1, .int (iI ((h : Int)))), (0, .ref (q))]) E dX7_takePieces_116 (by decide) rfl rfl ?_
                              show hm_V p l e (hm_rm 3 0 0) s m args below meth c D (hm_A w s.heap.size) 8 0 0 (MQ below (hm_Qv D w s.heap.size (fun w2 => ∃ (J : Nat → Bool) (P2 : Nat), w2 = mM K w q ia ta J T b md td ag ((P2 : Nat) : Int) ∧ (∀ i, i < 32768 → J i = I i) ∧ ∀ S, isC (tB T b) b (cdC S) → ∀ u, u < 4096 → mS J 8 u = S u)) args s 0 0 (hm_A w s.heap.size)) (mM K w q ia ta J2 T b md td ag ((P + 2 + kk + 1 : Nat) : Int)) 118 [(6, .int (iI (((0 : Nat) : Int)))), (5, .int (iI (((256 * h + kk : Nat) : Int)))), (4, .int (iI ((kk : Int)))), (3, .int (iI (((256 : Nat) : Int)))), (2, .int (iI (((1 : Nat) : Int)))), (1, .int (iI ((h : Int)))), (0, .ref (q))] []
                              refine hv_iconst E dX7_takePieces_118 rfl ?_
                              refine hv_istore (lv2 := [(7, .int (iI (0))), (6, .int (iI (((0 : Nat) : Int)))), (5, .int (iI (((256 * h + kk : Nat) : Int)))), (4, .int (iI ((kk : Int)))), (3, .int (iI (((256 : Nat) : Int)))), (2, .int (iI (((1 : Nat) : Int)))), (1, .int (iI ((h : Int)))), (0, .ref (q))]) E dX7_takePieces_119 (by decide) rfl rfl ?_
                              show hm_V p l e (hm_rm 3 0 0) s m args below meth c D (hm_A w s.heap.size) 8 0 0 (MQ below (hm_Qv D w s.heap.size (fun w2 => ∃ (J : Nat → Bool) (P2 : Nat), w2 = mM K w q ia ta J T b md td ag ((P2 : Nat) : Int) ∧ (∀ i, i < 32768 → J i = I i) ∧ ∀ S, isC (tB T b) b (cdC S) → ∀ u, u < 4096 → mS J 8 u = S u)) args s 0 0 (hm_A w s.heap.size)) (mM K w q ia ta J2 T b md td ag ((P + 2 + kk + 1 : Nat) : Int)) 121 [(7, .int (iI (((0 : Nat) : Int)))), (6, .int (iI (((0 : Nat) : Int)))), (5, .int (iI (((256 * h + kk : Nat) : Int)))), (4, .int (iI ((kk : Int)))), (3, .int (iI (((256 : Nat) : Int)))), (2, .int (iI (((1 : Nat) : Int)))), (1, .int (iI ((h : Int)))), (0, .ref (q))] []
                              have ih1 := ih
                              have L3 : ∀ (k : Nat) (i : Nat) (J3 : Nat → Bool), (((0 : Nat) : Int) - i < (k : Int)) → (i ≤ 0) → (kk + i ≤ 256) → (∀ u, u < 32768 → J3 u = I u) → (∀ u, mS J3 8 u = (mS J2 8 u || decide (256 * h + kk ≤ u ∧ u < 256 * h + (kk + i)))) → hm_V p l e (hm_rm 3 0 0) s m args below meth c D (hm_A w s.heap.size) 8 0 0 (MQ below (hm_Qv D w s.heap.size (fun w2 => ∃ (J : Nat → Bool) (P2 : Nat), w2 = mM K w q ia ta J T b md td ag ((P2 : Nat) : Int) ∧ (∀ i, i < 32768 → J i = I i) ∧ ∀ S, isC (tB T b) b (cdC S) → ∀ u, u < 4096 → mS J 8 u = S u)) args s 0 0 (hm_A w s.heap.size)) (mM K w q ia ta J3 T b md td ag ((P + 2 + kk + 1 : Nat) : Int)) 121 [(7, .int (iI ((i : Int)))), (6, .int (iI (((0 : Nat) : Int)))), (5, .int (iI (((256 * h + kk : Nat) : Int)))), (4, .int (iI ((kk : Int)))), (3, .int (iI (((256 : Nat) : Int)))), (2, .int (iI (((1 : Nat) : Int)))), (1, .int (iI ((h : Int)))), (0, .ref (q))] [] := by
                                intro k
                                induction k with
                                | zero =>
                                  intro i J3 hk3 i1 i2 hlo3 hJ3
                                  exact absurd hk3 (by omega)
                                | succ k ih =>
                                  intro i J3 hk3 i1 i2 hlo3 hJ3
                                  have hM : mAt K (mM K w q ia ta J3 T b md td ag ((P + 2 + kk + 1 : Nat) : Int)) q ia ta J3 T b md td ag ((P + 2 + kk + 1 : Nat) : Int) := mAt_mM hm.n1 hm.n2 hm.n3
                                  refine hv_iload E dX7_takePieces_121 0 rfl rfl ?_
                                  refine hv_iload E dX7_takePieces_123 1 rfl rfl ?_
                                  refine hv_icmp_ge E 158 dX7_takePieces_125 (by decide) ⟨by omega, by omega⟩ ⟨by omega, by omega⟩ rfl (fun c6 => ?_) (fun c6 => ?_)
                                  · have hi : i = 0 ∨ kk + i = 256 := Or.inl (by omega)
                                    refine hv_iinc (lv2 := [(4, .int (iI (((kk : Int)) + 1))), (7, .int (iI ((i : Int)))), (6, .int (iI (((0 : Nat) : Int)))), (5, .int (iI (((256 * h + kk : Nat) : Int)))), (3, .int (iI (((256 : Nat) : Int)))), (2, .int (iI (((1 : Nat) : Int)))), (1, .int (iI ((h : Int)))), (0, .ref (q))]) E dX7_takePieces_158 3 rfl rfl (by decide) rfl rfl ?_
                                    refine hv_goto E 50 dX7_takePieces_161 (by decide) ?_
                                    rw [show P + 2 + kk + 1 = P + 2 + (kk + 1) by omega]
                                    show hm_V p l e (hm_rm 3 0 0) s m args below meth c D (hm_A w s.heap.size) 8 0 0 (MQ below (hm_Qv D w s.heap.size (fun w2 => ∃ (J : Nat → Bool) (P2 : Nat), w2 = mM K w q ia ta J T b md td ag ((P2 : Nat) : Int) ∧ (∀ i, i < 32768 → J i = I i) ∧ ∀ S, isC (tB T b) b (cdC S) → ∀ u, u < 4096 → mS J 8 u = S u)) args s 0 0 (hm_A w s.heap.size)) (mM K w q ia ta J3 T b md td ag ((P + 2 + (kk + 1) : Nat) : Int)) 50 [(4, .int (iI (((kk + 1 : Nat) : Int)))), (7, .int (iI ((i : Int)))), (6, .int (iI (((0 : Nat) : Int)))), (5, .int (iI (((256 * h + kk : Nat) : Int)))), (3, .int (iI (((256 : Nat) : Int)))), (2, .int (iI (((1 : Nat) : Int)))), (1, .int (iI ((h : Int)))), (0, .ref (q))] []
                                    refine hv_sub (lv2 := [(4, .int (iI (((kk + 1 : Nat) : Int)))), (3, .int (iI (((256 : Nat) : Int)))), (2, .int (iI (((1 : Nat) : Int)))), (1, .int (iI ((h : Int)))), (0, .ref (q))]) [0, 4, 5, 6, 7] rfl ?_
                                    exact ih1 (kk + 1) J3 (by omega) (by omega) hlo3 (fun u h1 h2 => by rw [hJ3 u, hup2 u h1 h2, decide_eq_false (by omega)]; rfl) (by
                                          have hi0 : i = 0 := by omega
                                          have h9 := bI1_no hE2 (by omega) c4
                                          have h8 : mS J3 8 = mS J2 8 := funext (fun u => by rw [hJ3 u, decide_eq_false (by omega), Bool.or_false])
                                          rw [h8]; exact h9)
                                  · refine hv_iload E dX7_takePieces_128 2 rfl rfl ?_
                                    refine hv_sipush E dX7_takePieces_130 (by decide +kernel) rfl ?_
                                    refine hv_iremR E dX7_takePieces_133 (by decide +kernel) rfl rfl ?_
                                    refine hv_topi (show (iI (((256 * h + kk : Nat) : Int))) - (iI (((256 * h + kk : Nat) : Int))) / (iI (256)) * (iI (256)) = iI ((((256 * h + kk : Nat) : Int) % 256)) from iI_rem256 (by omega) (by omega)) ?_
                                    refine hv_iload E dX7_takePieces_134 0 rfl rfl ?_
                                    refine hv_iadd E dX7_takePieces_136 rfl ?_
                                    refine hv_sipush E dX7_takePieces_137 (by decide +kernel) rfl ?_
                                    refine hv_icmp_ge E 158 dX7_takePieces_140 (by decide) ⟨by omega, by omega⟩ ⟨by omega, by omega⟩ rfl (fun c7 => ?_) (fun c7 => ?_)
                                    · have hi : i = 0 ∨ kk + i = 256 := Or.inr (by omega)
                                      refine hv_iinc (lv2 := [(4, .int (iI (((kk : Int)) + 1))), (7, .int (iI ((i : Int)))), (6, .int (iI (((0 : Nat) : Int)))), (5, .int (iI (((256 * h + kk : Nat) : Int)))), (3, .int (iI (((256 : Nat) : Int)))), (2, .int (iI (((1 : Nat) : Int)))), (1, .int (iI ((h : Int)))), (0, .ref (q))]) E dX7_takePieces_158 3 rfl rfl (by decide) rfl rfl ?_
                                      refine hv_goto E 50 dX7_takePieces_161 (by decide) ?_
                                      rw [show P + 2 + kk + 1 = P + 2 + (kk + 1) by omega]
                                      show hm_V p l e (hm_rm 3 0 0) s m args below meth c D (hm_A w s.heap.size) 8 0 0 (MQ below (hm_Qv D w s.heap.size (fun w2 => ∃ (J : Nat → Bool) (P2 : Nat), w2 = mM K w q ia ta J T b md td ag ((P2 : Nat) : Int) ∧ (∀ i, i < 32768 → J i = I i) ∧ ∀ S, isC (tB T b) b (cdC S) → ∀ u, u < 4096 → mS J 8 u = S u)) args s 0 0 (hm_A w s.heap.size)) (mM K w q ia ta J3 T b md td ag ((P + 2 + (kk + 1) : Nat) : Int)) 50 [(4, .int (iI (((kk + 1 : Nat) : Int)))), (7, .int (iI ((i : Int)))), (6, .int (iI (((0 : Nat) : Int)))), (5, .int (iI (((256 * h + kk : Nat) : Int)))), (3, .int (iI (((256 : Nat) : Int)))), (2, .int (iI (((1 : Nat) : Int)))), (1, .int (iI ((h : Int)))), (0, .ref (q))] []
                                      refine hv_sub (lv2 := [(4, .int (iI (((kk + 1 : Nat) : Int)))), (3, .int (iI (((256 : Nat) : Int)))), (2, .int (iI (((1 : Nat) : Int)))), (1, .int (iI ((h : Int)))), (0, .ref (q))]) [0, 4, 5, 6, 7] rfl ?_
                                      exact ih1 (kk + 1) J3 (by omega) (by omega) hlo3 (fun u h1 h2 => by rw [hJ3 u, hup2 u h1 h2, decide_eq_false (by omega)]; rfl) (by
                                            have hi0 : i = 0 := by omega
                                            have h9 := bI1_no hE2 (by omega) c4
                                            have h8 : mS J3 8 = mS J2 8 := funext (fun u => by rw [hJ3 u, decide_eq_false (by omega), Bool.or_false])
                                            rw [h8]; exact h9)
                                    · refine hv_aload_n E dX7_takePieces_143 rfl 7 rfl rfl ?_
                                      refine hv_iload E dX7_takePieces_144 2 rfl rfl ?_
                                      refine hv_iload E dX7_takePieces_146 0 rfl rfl ?_
                                      refine hv_iadd E dX7_takePieces_148 rfl ?_
                                      refine hv_callVV (na := 1) (As := [.int (iI ((((256 * h + kk : Nat) : Int)) + ((i : Int))))]) (st := []) E (c7_mark l D K (((256 * h + kk : Nat) : Int) + (i : Int)) ⟨by omega, by omega⟩ hM) dX7_takePieces_149 hM.1 (show vwCl[6]? = some (RX7, TX7, 7) from rfl) gL_X7_122 gV_X7_mark gI_X7_mark gC_X7_mark gZ_X7 (by decide +kernel) rfl ⟨Nat.le_of_ble_eq_true rfl, Nat.le_of_ble_eq_true rfl⟩ (Nat.le_of_ble_eq_true rfl) ⟨Nat.zero_le _, Nat.zero_le _⟩ rfl rfl (fun w2 hp => ?_)
                                      rw [mM_mM hm.n1 hm.n2 hm.n3] at hp
                                      obtain ⟨J4, hJ4⟩ : ∃ zz, zz = mk J3 (((256 * h + kk : Nat) : Int) + (i : Int)) := ⟨_, rfl⟩
                                      rw [← hJ4] at hp
                                      rw [hp]
                                      show hm_V p l e (hm_rm 3 0 0) s m args below meth c D (hm_A w s.heap.size) 8 0 0 (MQ below (hm_Qv D w s.heap.size (fun w2 => ∃ (J : Nat → Bool) (P2 : Nat), w2 = mM K w q ia ta J T b md td ag ((P2 : Nat) : Int) ∧ (∀ i, i < 32768 → J i = I i) ∧ ∀ S, isC (tB T b) b (cdC S) → ∀ u, u < 4096 → mS J 8 u = S u)) args s 0 0 (hm_A w s.heap.size)) (mM K w q ia ta J4 T b md td ag ((P + 2 + kk + 1 : Nat) : Int)) 152 [(7, .int (iI ((i : Int)))), (6, .int (iI (((0 : Nat) : Int)))), (5, .int (iI (((256 * h + kk : Nat) : Int)))), (4, .int (iI ((kk : Int)))), (3, .int (iI (((256 : Nat) : Int)))), (2, .int (iI (((1 : Nat) : Int)))), (1, .int (iI ((h : Int)))), (0, .ref (q))] []
                                      refine hv_iinc (lv2 := [(7, .int (iI (((i : Int)) + 1))), (6, .int (iI (((0 : Nat) : Int)))), (5, .int (iI (((256 * h + kk : Nat) : Int)))), (4, .int (iI ((kk : Int)))), (3, .int (iI (((256 : Nat) : Int)))), (2, .int (iI (((1 : Nat) : Int)))), (1, .int (iI ((h : Int)))), (0, .ref (q))]) E dX7_takePieces_152 0 rfl rfl (by decide) rfl rfl ?_
                                      refine hv_goto E 121 dX7_takePieces_155 (by decide) ?_
                                      show hm_V p l e (hm_rm 3 0 0) s m args below meth c D (hm_A w s.heap.size) 8 0 0 (MQ below (hm_Qv D w s.heap.size (fun w2 => ∃ (J : Nat → Bool) (P2 : Nat), w2 = mM K w q ia ta J T b md td ag ((P2 : Nat) : Int) ∧ (∀ i, i < 32768 → J i = I i) ∧ ∀ S, isC (tB T b) b (cdC S) → ∀ u, u < 4096 → mS J 8 u = S u)) args s 0 0 (hm_A w s.heap.size)) (mM K w q ia ta J4 T b md td ag ((P + 2 + kk + 1 : Nat) : Int)) 121 [(7, .int (iI (((i + 1 : Nat) : Int)))), (6, .int (iI (((0 : Nat) : Int)))), (5, .int (iI (((256 * h + kk : Nat) : Int)))), (4, .int (iI ((kk : Int)))), (3, .int (iI (((256 : Nat) : Int)))), (2, .int (iI (((1 : Nat) : Int)))), (1, .int (iI ((h : Int)))), (0, .ref (q))] []
                                      refine hv_sub (lv2 := [(7, .int (iI (((i + 1 : Nat) : Int)))), (6, .int (iI (((0 : Nat) : Int)))), (5, .int (iI (((256 * h + kk : Nat) : Int)))), (4, .int (iI ((kk : Int)))), (3, .int (iI (((256 : Nat) : Int)))), (2, .int (iI (((1 : Nat) : Int)))), (1, .int (iI ((h : Int)))), (0, .ref (q))]) [0, 1, 2, 3, 4, 5, 6, 7] rfl ?_
                                      exact ih (i + 1) J4 (by omega) (by omega) (by omega) (fun u hu => by rw [hJ4, mk_lo hu]; exact hlo3 u hu) (fun u => by
                                            rw [hJ4, show ((256 * h + kk : Nat) : Int) + (i : Int) = ((256 * h + kk + i : Nat) : Int) by omega, mk_sp (by omega), hJ3 u, Bool.or_assoc]
                                            congr 1
                                            by_cases q1 : u = 256 * h + kk + i
                                            · rw [decide_eq_true q1, Bool.or_true, decide_eq_true (by omega)]
                                            · rw [decide_eq_false q1, Bool.or_false]; exact decide_eq_decide.mpr (by omega))
                              refine hv_sub (lv2 := [(7, .int (iI (((0 : Nat) : Int)))), (6, .int (iI (((0 : Nat) : Int)))), (5, .int (iI (((256 * h + kk : Nat) : Int)))), (4, .int (iI ((kk : Int)))), (3, .int (iI (((256 : Nat) : Int)))), (2, .int (iI (((1 : Nat) : Int)))), (1, .int (iI ((h : Int)))), (0, .ref (q))]) [0, 1, 2, 3, 4, 5, 6, 7] rfl ?_
                              exact L3 (0 + 1) 0 J2 (by omega) (by omega) (by omega) hlo2 (fun u => by rw [decide_eq_false (by omega), Bool.or_false])
                            · refine hv_iconst E dX7_takePieces_111 rfl ?_
                              refine hv_goto E 116 dX7_takePieces_112 (by decide) ?_
                              refine hv_istore (lv2 := [(6, .int (iI (1))), (5, .int (iI (((256 * h + kk : Nat) : Int)))), (4, .int (iI ((kk : Int)))), (3, .int (iI (((256 : Nat) : Int)))), (2, .int (iI (((1 : Nat) : Int)))), (1, .int (iI ((h : Int)))), (0, .ref (q))]) E dX7_takePieces_116 (by decide) rfl rfl ?_
                              show hm_V p l e (hm_rm 3 0 0) s m args below meth c D (hm_A w s.heap.size) 8 0 0 (MQ below (hm_Qv D w s.heap.size (fun w2 => ∃ (J : Nat → Bool) (P2 : Nat), w2 = mM K w q ia ta J T b md td ag ((P2 : Nat) : Int) ∧ (∀ i, i < 32768 → J i = I i) ∧ ∀ S, isC (tB T b) b (cdC S) → ∀ u, u < 4096 → mS J 8 u = S u)) args s 0 0 (hm_A w s.heap.size)) (mM K w q ia ta J2 T b md td ag ((P + 2 + kk + 1 : Nat) : Int)) 118 [(6, .int (iI (((1 : Nat) : Int)))), (5, .int (iI (((256 * h + kk : Nat) : Int)))), (4, .int (iI ((kk : Int)))), (3, .int (iI (((256 : Nat) : Int)))), (2, .int (iI (((1 : Nat) : Int)))), (1, .int (iI ((h : Int)))), (0, .ref (q))] []
                              refine hv_iconst E dX7_takePieces_118 rfl ?_
                              refine hv_istore (lv2 := [(7, .int (iI (0))), (6, .int (iI (((1 : Nat) : Int)))), (5, .int (iI (((256 * h + kk : Nat) : Int)))), (4, .int (iI ((kk : Int)))), (3, .int (iI (((256 : Nat) : Int)))), (2, .int (iI (((1 : Nat) : Int)))), (1, .int (iI ((h : Int)))), (0, .ref (q))]) E dX7_takePieces_119 (by decide) rfl rfl ?_
                              show hm_V p l e (hm_rm 3 0 0) s m args below meth c D (hm_A w s.heap.size) 8 0 0 (MQ below (hm_Qv D w s.heap.size (fun w2 => ∃ (J : Nat → Bool) (P2 : Nat), w2 = mM K w q ia ta J T b md td ag ((P2 : Nat) : Int) ∧ (∀ i, i < 32768 → J i = I i) ∧ ∀ S, isC (tB T b) b (cdC S) → ∀ u, u < 4096 → mS J 8 u = S u)) args s 0 0 (hm_A w s.heap.size)) (mM K w q ia ta J2 T b md td ag ((P + 2 + kk + 1 : Nat) : Int)) 121 [(7, .int (iI (((0 : Nat) : Int)))), (6, .int (iI (((1 : Nat) : Int)))), (5, .int (iI (((256 * h + kk : Nat) : Int)))), (4, .int (iI ((kk : Int)))), (3, .int (iI (((256 : Nat) : Int)))), (2, .int (iI (((1 : Nat) : Int)))), (1, .int (iI ((h : Int)))), (0, .ref (q))] []
                              have ih1 := ih
                              have L3 : ∀ (k : Nat) (i : Nat) (J3 : Nat → Bool), (((1 : Nat) : Int) - i < (k : Int)) → (i ≤ 1) → (kk + i ≤ 256) → (∀ u, u < 32768 → J3 u = I u) → (∀ u, mS J3 8 u = (mS J2 8 u || decide (256 * h + kk ≤ u ∧ u < 256 * h + (kk + i)))) → hm_V p l e (hm_rm 3 0 0) s m args below meth c D (hm_A w s.heap.size) 8 0 0 (MQ below (hm_Qv D w s.heap.size (fun w2 => ∃ (J : Nat → Bool) (P2 : Nat), w2 = mM K w q ia ta J T b md td ag ((P2 : Nat) : Int) ∧ (∀ i, i < 32768 → J i = I i) ∧ ∀ S, isC (tB T b) b (cdC S) → ∀ u, u < 4096 → mS J 8 u = S u)) args s 0 0 (hm_A w s.heap.size)) (mM K w q ia ta J3 T b md td ag ((P + 2 + kk + 1 : Nat) : Int)) 121 [(7, .int (iI ((i : Int)))), (6, .int (iI (((1 : Nat) : Int)))), (5, .int (iI (((256 * h + kk : Nat) : Int)))), (4, .int (iI ((kk : Int)))), (3, .int (iI (((256 : Nat) : Int)))), (2, .int (iI (((1 : Nat) : Int)))), (1, .int (iI ((h : Int)))), (0, .ref (q))] [] := by
                                intro k
                                induction k with
                                | zero =>
                                  intro i J3 hk3 i1 i2 hlo3 hJ3
                                  exact absurd hk3 (by omega)
                                | succ k ih =>
                                  intro i J3 hk3 i1 i2 hlo3 hJ3
                                  have hM : mAt K (mM K w q ia ta J3 T b md td ag ((P + 2 + kk + 1 : Nat) : Int)) q ia ta J3 T b md td ag ((P + 2 + kk + 1 : Nat) : Int) := mAt_mM hm.n1 hm.n2 hm.n3
                                  refine hv_iload E dX7_takePieces_121 0 rfl rfl ?_
                                  refine hv_iload E dX7_takePieces_123 1 rfl rfl ?_
                                  refine hv_icmp_ge E 158 dX7_takePieces_125 (by decide) ⟨by omega, by omega⟩ ⟨by omega, by omega⟩ rfl (fun c6 => ?_) (fun c6 => ?_)
                                  · have hi : i = 1 ∨ kk + i = 256 := Or.inl (by omega)
                                    refine hv_iinc (lv2 := [(4, .int (iI (((kk : Int)) + 1))), (7, .int (iI ((i : Int)))), (6, .int (iI (((1 : Nat) : Int)))), (5, .int (iI (((256 * h + kk : Nat) : Int)))), (3, .int (iI (((256 : Nat) : Int)))), (2, .int (iI (((1 : Nat) : Int)))), (1, .int (iI ((h : Int)))), (0, .ref (q))]) E dX7_takePieces_158 3 rfl rfl (by decide) rfl rfl ?_
                                    refine hv_goto E 50 dX7_takePieces_161 (by decide) ?_
                                    rw [show P + 2 + kk + 1 = P + 2 + (kk + 1) by omega]
                                    show hm_V p l e (hm_rm 3 0 0) s m args below meth c D (hm_A w s.heap.size) 8 0 0 (MQ below (hm_Qv D w s.heap.size (fun w2 => ∃ (J : Nat → Bool) (P2 : Nat), w2 = mM K w q ia ta J T b md td ag ((P2 : Nat) : Int) ∧ (∀ i, i < 32768 → J i = I i) ∧ ∀ S, isC (tB T b) b (cdC S) → ∀ u, u < 4096 → mS J 8 u = S u)) args s 0 0 (hm_A w s.heap.size)) (mM K w q ia ta J3 T b md td ag ((P + 2 + (kk + 1) : Nat) : Int)) 50 [(4, .int (iI (((kk + 1 : Nat) : Int)))), (7, .int (iI ((i : Int)))), (6, .int (iI (((1 : Nat) : Int)))), (5, .int (iI (((256 * h + kk : Nat) : Int)))), (3, .int (iI (((256 : Nat) : Int)))), (2, .int (iI (((1 : Nat) : Int)))), (1, .int (iI ((h : Int)))), (0, .ref (q))] []
                                    refine hv_sub (lv2 := [(4, .int (iI (((kk + 1 : Nat) : Int)))), (3, .int (iI (((256 : Nat) : Int)))), (2, .int (iI (((1 : Nat) : Int)))), (1, .int (iI ((h : Int)))), (0, .ref (q))]) [0, 4, 5, 6, 7] rfl ?_
                                    exact ih1 (kk + 1) J3 (by omega) (by omega) hlo3 (fun u h1 h2 => by rw [hJ3 u, hup2 u h1 h2, decide_eq_false (by omega)]; rfl) (by
                                          have hi0 : i = 1 := by omega
                                          exact bI1_yes hE2 c4 (fun u => by rw [hJ3 u]; congr 1; exact decide_eq_decide.mpr (by omega)))
                                  · refine hv_iload E dX7_takePieces_128 2 rfl rfl ?_
                                    refine hv_sipush E dX7_takePieces_130 (by decide +kernel) rfl ?_
                                    refine hv_iremR E dX7_takePieces_133 (by decide +kernel) rfl rfl ?_
                                    refine hv_topi (show (iI (((256 * h + kk : Nat) : Int))) - (iI (((256 * h + kk : Nat) : Int))) / (iI (256)) * (iI (256)) = iI ((((256 * h + kk : Nat) : Int) % 256)) from iI_rem256 (by omega) (by omega)) ?_
                                    refine hv_iload E dX7_takePieces_134 0 rfl rfl ?_
                                    refine hv_iadd E dX7_takePieces_136 rfl ?_
                                    refine hv_sipush E dX7_takePieces_137 (by decide +kernel) rfl ?_
                                    refine hv_icmp_ge E 158 dX7_takePieces_140 (by decide) ⟨by omega, by omega⟩ ⟨by omega, by omega⟩ rfl (fun c7 => ?_) (fun c7 => ?_)
                                    · have hi : i = 1 ∨ kk + i = 256 := Or.inr (by omega)
                                      refine hv_iinc (lv2 := [(4, .int (iI (((kk : Int)) + 1))), (7, .int (iI ((i : Int)))), (6, .int (iI (((1 : Nat) : Int)))), (5, .int (iI (((256 * h + kk : Nat) : Int)))), (3, .int (iI (((256 : Nat) : Int)))), (2, .int (iI (((1 : Nat) : Int)))), (1, .int (iI ((h : Int)))), (0, .ref (q))]) E dX7_takePieces_158 3 rfl rfl (by decide) rfl rfl ?_
                                      refine hv_goto E 50 dX7_takePieces_161 (by decide) ?_
                                      rw [show P + 2 + kk + 1 = P + 2 + (kk + 1) by omega]
                                      show hm_V p l e (hm_rm 3 0 0) s m args below meth c D (hm_A w s.heap.size) 8 0 0 (MQ below (hm_Qv D w s.heap.size (fun w2 => ∃ (J : Nat → Bool) (P2 : Nat), w2 = mM K w q ia ta J T b md td ag ((P2 : Nat) : Int) ∧ (∀ i, i < 32768 → J i = I i) ∧ ∀ S, isC (tB T b) b (cdC S) → ∀ u, u < 4096 → mS J 8 u = S u)) args s 0 0 (hm_A w s.heap.size)) (mM K w q ia ta J3 T b md td ag ((P + 2 + (kk + 1) : Nat) : Int)) 50 [(4, .int (iI (((kk + 1 : Nat) : Int)))), (7, .int (iI ((i : Int)))), (6, .int (iI (((1 : Nat) : Int)))), (5, .int (iI (((256 * h + kk : Nat) : Int)))), (3, .int (iI (((256 : Nat) : Int)))), (2, .int (iI (((1 : Nat) : Int)))), (1, .int (iI ((h : Int)))), (0, .ref (q))] []
                                      refine hv_sub (lv2 := [(4, .int (iI (((kk + 1 : Nat) : Int)))), (3, .int (iI (((256 : Nat) : Int)))), (2, .int (iI (((1 : Nat) : Int)))), (1, .int (iI ((h : Int)))), (0, .ref (q))]) [0, 4, 5, 6, 7] rfl ?_
                                      exact ih1 (kk + 1) J3 (by omega) (by omega) hlo3 (fun u h1 h2 => by rw [hJ3 u, hup2 u h1 h2, decide_eq_false (by omega)]; rfl) (by
                                            have hi0 : i = 1 := by omega
                                            exact bI1_yes hE2 c4 (fun u => by rw [hJ3 u]; congr 1; exact decide_eq_decide.mpr (by omega)))
                                    · refine hv_aload_n E dX7_takePieces_143 rfl 7 rfl rfl ?_
                                      refine hv_iload E dX7_takePieces_144 2 rfl rfl ?_
                                      refine hv_iload E dX7_takePieces_146 0 rfl rfl ?_
                                      refine hv_iadd E dX7_takePieces_148 rfl ?_
                                      refine hv_callVV (na := 1) (As := [.int (iI ((((256 * h + kk : Nat) : Int)) + ((i : Int))))]) (st := []) E (c7_mark l D K (((256 * h + kk : Nat) : Int) + (i : Int)) ⟨by omega, by omega⟩ hM) dX7_takePieces_149 hM.1 (show vwCl[6]? = some (RX7, TX7, 7) from rfl) gL_X7_122 gV_X7_mark gI_X7_mark gC_X7_mark gZ_X7 (by decide +kernel) rfl ⟨Nat.le_of_ble_eq_true rfl, Nat.le_of_ble_eq_true rfl⟩ (Nat.le_of_ble_eq_true rfl) ⟨Nat.zero_le _, Nat.zero_le _⟩ rfl rfl (fun w2 hp => ?_)
                                      rw [mM_mM hm.n1 hm.n2 hm.n3] at hp
                                      obtain ⟨J4, hJ4⟩ : ∃ zz, zz = mk J3 (((256 * h + kk : Nat) : Int) + (i : Int)) := ⟨_, rfl⟩
                                      rw [← hJ4] at hp
                                      rw [hp]
                                      show hm_V p l e (hm_rm 3 0 0) s m args below meth c D (hm_A w s.heap.size) 8 0 0 (MQ below (hm_Qv D w s.heap.size (fun w2 => ∃ (J : Nat → Bool) (P2 : Nat), w2 = mM K w q ia ta J T b md td ag ((P2 : Nat) : Int) ∧ (∀ i, i < 32768 → J i = I i) ∧ ∀ S, isC (tB T b) b (cdC S) → ∀ u, u < 4096 → mS J 8 u = S u)) args s 0 0 (hm_A w s.heap.size)) (mM K w q ia ta J4 T b md td ag ((P + 2 + kk + 1 : Nat) : Int)) 152 [(7, .int (iI ((i : Int)))), (6, .int (iI (((1 : Nat) : Int)))), (5, .int (iI (((256 * h + kk : Nat) : Int)))), (4, .int (iI ((kk : Int)))), (3, .int (iI (((256 : Nat) : Int)))), (2, .int (iI (((1 : Nat) : Int)))), (1, .int (iI ((h : Int)))), (0, .ref (q))] []
                                      refine hv_iinc (lv2 := [(7, .int (iI (((i : Int)) + 1))), (6, .int (iI (((1 : Nat) : Int)))), (5, .int (iI (((256 * h + kk : Nat) : Int)))), (4, .int (iI ((kk : Int)))), (3, .int (iI (((256 : Nat) : Int)))), (2, .int (iI (((1 : Nat) : Int)))), (1, .int (iI ((h : Int)))), (0, .ref (q))]) E dX7_takePieces_152 0 rfl rfl (by decide) rfl rfl ?_
                                      refine hv_goto E 121 dX7_takePieces_155 (by decide) ?_
                                      show hm_V p l e (hm_rm 3 0 0) s m args below meth c D (hm_A w s.heap.size) 8 0 0 (MQ below (hm_Qv D w s.heap.size (fun w2 => ∃ (J : Nat → Bool) (P2 : Nat), w2 = mM K w q ia ta J T b md td ag ((P2 : Nat) : Int) ∧ (∀ i, i < 32768 → J i = I i) ∧ ∀ S, isC (tB T b) b (cdC S) → ∀ u, u < 4096 → mS J 8 u = S u)) args s 0 0 (hm_A w s.heap.size)) (mM K w q ia ta J4 T b md td ag ((P + 2 + kk + 1 : Nat) : Int)) 121 [(7, .int (iI (((i + 1 : Nat) : Int)))), (6, .int (iI (((1 : Nat) : Int)))), (5, .int (iI (((256 * h + kk : Nat) : Int)))), (4, .int (iI ((kk : Int)))), (3, .int (iI (((256 : Nat) : Int)))), (2, .int (iI (((1 : Nat) : Int)))), (1, .int (iI ((h : Int)))), (0, .ref (q))] []
                                      refine hv_sub (lv2 := [(7, .int (iI (((i + 1 : Nat) : Int)))), (6, .int (iI (((1 : Nat) : Int)))), (5, .int (iI (((256 * h + kk : Nat) : Int)))), (4, .int (iI ((kk : Int)))), (3, .int (iI (((256 : Nat) : Int)))), (2, .int (iI (((1 : Nat) : Int)))), (1, .int (iI ((h : Int)))), (0, .ref (q))]) [0, 1, 2, 3, 4, 5, 6, 7] rfl ?_
                                      exact ih (i + 1) J4 (by omega) (by omega) (by omega) (fun u hu => by rw [hJ4, mk_lo hu]; exact hlo3 u hu) (fun u => by
                                            rw [hJ4, show ((256 * h + kk : Nat) : Int) + (i : Int) = ((256 * h + kk + i : Nat) : Int) by omega, mk_sp (by omega), hJ3 u, Bool.or_assoc]
                                            congr 1
                                            by_cases q1 : u = 256 * h + kk + i
                                            · rw [decide_eq_true q1, Bool.or_true, decide_eq_true (by omega)]
                                            · rw [decide_eq_false q1, Bool.or_false]; exact decide_eq_decide.mpr (by omega))
                              refine hv_sub (lv2 := [(7, .int (iI (((0 : Nat) : Int)))), (6, .int (iI (((1 : Nat) : Int)))), (5, .int (iI (((256 * h + kk : Nat) : Int)))), (4, .int (iI ((kk : Int)))), (3, .int (iI (((256 : Nat) : Int)))), (2, .int (iI (((1 : Nat) : Int)))), (1, .int (iI ((h : Int)))), (0, .ref (q))]) [0, 1, 2, 3, 4, 5, 6, 7] rfl ?_
                              exact L3 (1 + 1) 0 J2 (by omega) (by omega) (by omega) hlo2 (fun u => by rw [decide_eq_false (by omega), Bool.or_false])
                          · exact absurd d10 (by omega)
                        · exact absurd d9 (by omega)
                refine hv_sub (lv2 := [(4, .int (iI (((0 : Nat) : Int)))), (3, .int (iI (((256 : Nat) : Int)))), (2, .int (iI (((1 : Nat) : Int)))), (1, .int (iI ((h : Int)))), (0, .ref (q))]) [0, 1, 2, 3, 4] rfl ?_
                exact L2 (256 + 1) 0 J (by omega) (by omega) hlo (fun u h1 h2 => hup u (by omega) h2) (bI1_0 hup)
            · exact absurd d6 (by omega)
        · rw [hF]
          show hm_V p l e (hm_rm 3 0 0) s m args below meth c D (hm_A w s.heap.size) 8 0 0 (MQ below (hm_Qv D w s.heap.size (fun w2 => ∃ (J : Nat → Bool) (P2 : Nat), w2 = mM K w q ia ta J T b md td ag ((P2 : Nat) : Int) ∧ (∀ i, i < 32768 → J i = I i) ∧ ∀ S, isC (tB T b) b (cdC S) → ∀ u, u < 4096 → mS J 8 u = S u)) args s 0 0 (hm_A w s.heap.size)) (mM K w q ia ta J T b md td ag ((P + 2 : Nat) : Int)) 14 [(2, .int (iI (((2 : Nat) : Int)))), (1, .int (iI ((h : Int)))), (0, .ref (q))] []
          have hb : bv (tB T b) P 2 = 2 := by omega
          refine hv_iload_n E dX7_takePieces_14 rfl 0 rfl rfl ?_
          refine hv_if_eq E 23 dX7_takePieces_15 (by decide) ⟨by omega, by omega⟩ rfl (fun d11 => ?_) (fun d11 => ?_)
          · exact absurd d11 (by omega)
          · refine hv_iload_n E dX7_takePieces_18 rfl 0 rfl rfl ?_
            refine hv_iconst E dX7_takePieces_19 rfl ?_
            refine hv_icmp_ne E 34 dX7_takePieces_20 (by decide) ⟨by omega, by omega⟩ ⟨by omega, by omega⟩ rfl (fun d12 => ?_) (fun d12 => ?_)
            · exact absurd d12 (by omega)
            · refine hv_aload_n E dX7_takePieces_23 rfl 2 rfl rfl ?_
              refine hv_bipush E dX7_takePieces_24 (by decide +kernel) rfl ?_
              refine hv_callVI (na := 1) (As := [.int (iI (8))]) (st := []) E (c7_takeNumber l D K (P0 := P + 2) (8) (by omega) (by omega) (by omega) hM hb0 hb1) dX7_takePieces_26 hM.1 (show vwCl[6]? = some (RX7, TX7, 7) from rfl) gL_X7_119 gV_X7_takeNumber gI_X7_takeNumber gC_X7_takeNumber gZ_X7 (by decide +kernel) rfl ⟨Nat.le_of_ble_eq_true rfl, Nat.le_of_ble_eq_true rfl⟩ (Nat.le_of_ble_eq_true rfl) ⟨Nat.zero_le _, Nat.zero_le _⟩ rfl rfl (fun r w2 hp => ?_)
              rw [mM_mM hm.n1 hm.n2 hm.n3, show (8 : Int).toNat = 8 by omega] at hp
              obtain ⟨NB, hNB⟩ : ∃ zz, zz = bv (tB T b) (P + 2) (8) := ⟨_, rfl⟩
              have hNBb := bv_lt (tB T b) (P + 2) (8)
              rw [← hNB] at hp hNBb
              rw [hp.1, hp.2]
              show hm_V p l e (hm_rm 3 0 0) s m args below meth c D (hm_A w s.heap.size) 8 0 0 (MQ below (hm_Qv D w s.heap.size (fun w2 => ∃ (J : Nat → Bool) (P2 : Nat), w2 = mM K w q ia ta J T b md td ag ((P2 : Nat) : Int) ∧ (∀ i, i < 32768 → J i = I i) ∧ ∀ S, isC (tB T b) b (cdC S) → ∀ u, u < 4096 → mS J 8 u = S u)) args s 0 0 (hm_A w s.heap.size)) (mM K w q ia ta J T b md td ag ((P + 2 + 8 : Nat) : Int)) 29 [(2, .int (iI (((2 : Nat) : Int)))), (1, .int (iI ((h : Int)))), (0, .ref (q))] [.int (iI ((NB : Int)))]
              clear hM
              have hM : mAt K (mM K w q ia ta J T b md td ag ((P + 2 + 8 : Nat) : Int)) q ia ta J T b md td ag ((P + 2 + 8 : Nat) : Int) := mAt_mM hm.n1 hm.n2 hm.n3
              refine hv_iconst E dX7_takePieces_29 rfl ?_
              refine hv_iadd E dX7_takePieces_30 rfl ?_
              refine hv_goto E 46 dX7_takePieces_31 (by decide) ?_
              refine hv_istore_n (lv2 := [(3, .int (iI (((NB : Int)) + 1))), (2, .int (iI (((2 : Nat) : Int)))), (1, .int (iI ((h : Int)))), (0, .ref (q))]) E dX7_takePieces_46 rfl (by decide) rfl rfl ?_
              refine hv_iconst E dX7_takePieces_47 rfl ?_
              refine hv_istore (lv2 := [(4, .int (iI (0))), (3, .int (iI (((NB : Int)) + 1))), (2, .int (iI (((2 : Nat) : Int)))), (1, .int (iI ((h : Int)))), (0, .ref (q))]) E dX7_takePieces_48 (by decide) rfl rfl ?_
              rw [show (NB : Int) + 1 = ((NB + 1 : Nat) : Int) by omega]
              refine hv_mem (show mM K w q ia ta J T b md td ag ((P + 2 + 8 : Nat) : Int) = mM K w q ia ta J T b md td ag ((P + 2 + 8 + 16 * 0 : Nat) : Int) from rfl) ?_
              show hm_V p l e (hm_rm 3 0 0) s m args below meth c D (hm_A w s.heap.size) 8 0 0 (MQ below (hm_Qv D w s.heap.size (fun w2 => ∃ (J : Nat → Bool) (P2 : Nat), w2 = mM K w q ia ta J T b md td ag ((P2 : Nat) : Int) ∧ (∀ i, i < 32768 → J i = I i) ∧ ∀ S, isC (tB T b) b (cdC S) → ∀ u, u < 4096 → mS J 8 u = S u)) args s 0 0 (hm_A w s.heap.size)) (mM K w q ia ta J T b md td ag ((P + 2 + 8 + 16 * 0 : Nat) : Int)) 50 [(4, .int (iI (((0 : Nat) : Int)))), (3, .int (iI (((NB + 1 : Nat) : Int)))), (2, .int (iI (((2 : Nat) : Int)))), (1, .int (iI ((h : Int)))), (0, .ref (q))] []
              clear hM
              rw [show (2 : Nat) ^ 8 = 256 from rfl] at hNBb
              have L2 : ∀ (k : Nat) (kk : Nat) (J2 : Nat → Bool), (((NB + 1 : Nat) : Int) - kk < (k : Int)) → (kk ≤ NB + 1) → (∀ i, i < 32768 → J2 i = I i) → (∀ u, 256 * h + 256 ≤ u → u < 4096 → mS J2 8 u = false) → (∀ S, isC (tB T b) b (cdC S) → ∃ j, rI (tB T b) (P + 2 + 8) (NB + 1) (256 * h) (mS J 8) (mS J2 8) j kk) → hm_V p l e (hm_rm 3 0 0) s m args below meth c D (hm_A w s.heap.size) 8 0 0 (MQ below (hm_Qv D w s.heap.size (fun w2 => ∃ (J : Nat → Bool) (P2 : Nat), w2 = mM K w q ia ta J T b md td ag ((P2 : Nat) : Int) ∧ (∀ i, i < 32768 → J i = I i) ∧ ∀ S, isC (tB T b) b (cdC S) → ∀ u, u < 4096 → mS J 8 u = S u)) args s 0 0 (hm_A w s.heap.size)) (mM K w q ia ta J2 T b md td ag ((P + 2 + 8 + 16 * kk : Nat) : Int)) 50 [(4, .int (iI ((kk : Int)))), (3, .int (iI (((NB + 1 : Nat) : Int)))), (2, .int (iI (((2 : Nat) : Int)))), (1, .int (iI ((h : Int)))), (0, .ref (q))] [] := by
                intro k
                induction k with
                | zero =>
                  intro kk J2 hk2 kk1 hlo2 hup2 hE2
                  exact absurd hk2 (by omega)
                | succ k ih =>
                  intro kk J2 hk2 kk1 hlo2 hup2 hE2
                  have hM : mAt K (mM K w q ia ta J2 T b md td ag ((P + 2 + 8 + 16 * kk : Nat) : Int)) q ia ta J2 T b md td ag ((P + 2 + 8 + 16 * kk : Nat) : Int) := mAt_mM hm.n1 hm.n2 hm.n3
                  refine hv_iload E dX7_takePieces_50 0 rfl rfl ?_
                  refine hv_iload_n E dX7_takePieces_52 rfl 1 rfl rfl ?_
                  refine hv_icmp_ge E 164 dX7_takePieces_53 (by decide) ⟨by omega, by omega⟩ ⟨by omega, by omega⟩ rfl (fun c3 => ?_) (fun c3 => ?_)
                  · have hkk : kk = NB + 1 := by omega
                    refine hv_iinc (lv2 := [(1, .int (iI (((h : Int)) + 1))), (4, .int (iI ((kk : Int)))), (3, .int (iI (((NB + 1 : Nat) : Int)))), (2, .int (iI (((2 : Nat) : Int)))), (0, .ref (q))]) E dX7_takePieces_164 3 rfl rfl (by decide) rfl rfl ?_
                    refine hv_goto E 2 dX7_takePieces_167 (by decide) ?_
                    show hm_V p l e (hm_rm 3 0 0) s m args below meth c D (hm_A w s.heap.size) 8 0 0 (MQ below (hm_Qv D w s.heap.size (fun w2 => ∃ (J : Nat → Bool) (P2 : Nat), w2 = mM K w q ia ta J T b md td ag ((P2 : Nat) : Int) ∧ (∀ i, i < 32768 → J i = I i) ∧ ∀ S, isC (tB T b) b (cdC S) → ∀ u, u < 4096 → mS J 8 u = S u)) args s 0 0 (hm_A w s.heap.size)) (mM K w q ia ta J2 T b md td ag ((P + 2 + 8 + 16 * kk : Nat) : Int)) 2 [(1, .int (iI (((h + 1 : Nat) : Int)))), (4, .int (iI ((kk : Int)))), (3, .int (iI (((NB + 1 : Nat) : Int)))), (2, .int (iI (((2 : Nat) : Int)))), (0, .ref (q))] []
                    refine hv_sub (lv2 := [(1, .int (iI (((h + 1 : Nat) : Int)))), (0, .ref (q))]) [0, 4] rfl ?_
                    exact ih0 (h + 1) (P + 2 + 8 + 16 * kk) J2 (by omega) (by omega) (by omega) hlo2 (fun u h1 h2 => hup2 u (by omega) h2) (fun S hS => (by
                        obtain ⟨j, hj⟩ := hE2 S hS
                        rw [hkk] at hj
                        have hj := rI_end hj (by omega)
                        rw [hNB] at hj
                        exact cI_m (hE S hS) hh hS (pE_2 hb hj (by rw [hkk, hNB]))))
                  · refine hv_sipush E dX7_takePieces_56 (by decide +kernel) rfl ?_
                    refine hv_iload_n E dX7_takePieces_59 rfl 3 rfl rfl ?_
                    refine hv_imul E dX7_takePieces_60 rfl ?_
                    refine hv_iload_n E dX7_takePieces_61 rfl 2 rfl rfl ?_
                    refine hv_iconst E dX7_takePieces_62 rfl ?_
                    refine hv_icmp_ne E 71 dX7_takePieces_63 (by decide) ⟨by omega, by omega⟩ ⟨by omega, by omega⟩ rfl (fun d13 => ?_) (fun d13 => ?_)
                    · refine hv_aload_n E dX7_takePieces_71 rfl 4 rfl rfl ?_
                      refine hv_bipush E dX7_takePieces_72 (by decide +kernel) rfl ?_
                      refine hv_callVI (na := 1) (As := [.int (iI (8))]) (st := [.int (iI (256 * ((h : Int))))]) E (c7_takeNumber l D K (P0 := P + 2 + 8 + 16 * kk) (8) (by omega) (by omega) (by omega) hM hb0 hb1) dX7_takePieces_74 hM.1 (show vwCl[6]? = some (RX7, TX7, 7) from rfl) gL_X7_119 gV_X7_takeNumber gI_X7_takeNumber gC_X7_takeNumber gZ_X7 (by decide +kernel) rfl ⟨Nat.le_of_ble_eq_true rfl, Nat.le_of_ble_eq_true rfl⟩ (Nat.le_of_ble_eq_true rfl) ⟨Nat.zero_le _, Nat.zero_le _⟩ rfl rfl (fun r w2 hp => ?_)
                      rw [mM_mM hm.n1 hm.n2 hm.n3, show (8 : Int).toNat = 8 by omega] at hp
                      obtain ⟨B, hB⟩ : ∃ zz, zz = bv (tB T b) (P + 2 + 8 + 16 * kk) (8) := ⟨_, rfl⟩
                      have hBb := bv_lt (tB T b) (P + 2 + 8 + 16 * kk) (8)
                      rw [← hB] at hp hBb
                      rw [hp.1, hp.2]
                      show hm_V p l e (hm_rm 3 0 0) s m args below meth c D (hm_A w s.heap.size) 8 0 0 (MQ below (hm_Qv D w s.heap.size (fun w2 => ∃ (J : Nat → Bool) (P2 : Nat), w2 = mM K w q ia ta J T b md td ag ((P2 : Nat) : Int) ∧ (∀ i, i < 32768 → J i = I i) ∧ ∀ S, isC (tB T b) b (cdC S) → ∀ u, u < 4096 → mS J 8 u = S u)) args s 0 0 (hm_A w s.heap.size)) (mM K w q ia ta J2 T b md td ag ((P + 2 + 8 + 16 * kk + 8 : Nat) : Int)) 77 [(4, .int (iI ((kk : Int)))), (3, .int (iI (((NB + 1 : Nat) : Int)))), (2, .int (iI (((2 : Nat) : Int)))), (1, .int (iI ((h : Int)))), (0, .ref (q))] [.int (iI ((B : Int))), .int (iI (256 * ((h : Int))))]
                      rw [show (2 : Nat) ^ 8 = 256 from rfl] at hBb
                      clear hM
                      have hM : mAt K (mM K w q ia ta J2 T b md td ag ((P + 2 + 8 + 16 * kk + 8 : Nat) : Int)) q ia ta J2 T b md td ag ((P + 2 + 8 + 16 * kk + 8 : Nat) : Int) := mAt_mM hm.n1 hm.n2 hm.n3
                      refine hv_iadd E dX7_takePieces_77 rfl ?_
                      rw [show 256 * (h : Int) + (B : Int) = ((256 * h + B : Nat) : Int) by omega]
                      show hm_V p l e (hm_rm 3 0 0) s m args below meth c D (hm_A w s.heap.size) 8 0 0 (MQ below (hm_Qv D w s.heap.size (fun w2 => ∃ (J : Nat → Bool) (P2 : Nat), w2 = mM K w q ia ta J T b md td ag ((P2 : Nat) : Int) ∧ (∀ i, i < 32768 → J i = I i) ∧ ∀ S, isC (tB T b) b (cdC S) → ∀ u, u < 4096 → mS J 8 u = S u)) args s 0 0 (hm_A w s.heap.size)) (mM K w q ia ta J2 T b md td ag ((P + 2 + 8 + 16 * kk + 8 : Nat) : Int)) 78 [(4, .int (iI ((kk : Int)))), (3, .int (iI (((NB + 1 : Nat) : Int)))), (2, .int (iI (((2 : Nat) : Int)))), (1, .int (iI ((h : Int)))), (0, .ref (q))] [.int (iI (((256 * h + B : Nat) : Int)))]
                      refine hv_istore (lv2 := [(5, .int (iI (((256 * h + B : Nat) : Int)))), (4, .int (iI ((kk : Int)))), (3, .int (iI (((NB + 1 : Nat) : Int)))), (2, .int (iI (((2 : Nat) : Int)))), (1, .int (iI ((h : Int)))), (0, .ref (q))]) E dX7_takePieces_78 (by decide) rfl rfl ?_
                      refine hv_iload_n E dX7_takePieces_80 rfl 3 rfl rfl ?_
                      refine hv_iconst E dX7_takePieces_81 rfl ?_
                      refine hv_icmp_ne E 96 dX7_takePieces_82 (by decide) ⟨by omega, by omega⟩ ⟨by omega, by omega⟩ rfl (fun d14 => ?_) (fun d14 => ?_)
                      · exact absurd d14 (by omega)
                      · refine hv_aload_n E dX7_takePieces_85 rfl 5 rfl rfl ?_
                        refine hv_bipush E dX7_takePieces_86 (by decide +kernel) rfl ?_
                        refine hv_callVI (na := 1) (As := [.int (iI (8))]) (st := []) E (c7_takeNumber l D K (P0 := P + 2 + 8 + 16 * kk + 8) (8) (by omega) (by omega) (by omega) hM hb0 hb1) dX7_takePieces_88 hM.1 (show vwCl[6]? = some (RX7, TX7, 7) from rfl) gL_X7_119 gV_X7_takeNumber gI_X7_takeNumber gC_X7_takeNumber gZ_X7 (by decide +kernel) rfl ⟨Nat.le_of_ble_eq_true rfl, Nat.le_of_ble_eq_true rfl⟩ (Nat.le_of_ble_eq_true rfl) ⟨Nat.zero_le _, Nat.zero_le _⟩ rfl rfl (fun r w2 hp => ?_)
                        rw [mM_mM hm.n1 hm.n2 hm.n3, show (8 : Int).toNat = 8 by omega] at hp
                        obtain ⟨C, hC⟩ : ∃ zz, zz = bv (tB T b) (P + 2 + 8 + 16 * kk + 8) (8) := ⟨_, rfl⟩
                        have hCb := bv_lt (tB T b) (P + 2 + 8 + 16 * kk + 8) (8)
                        rw [← hC] at hp hCb
                        rw [hp.1, hp.2]
                        show hm_V p l e (hm_rm 3 0 0) s m args below meth c D (hm_A w s.heap.size) 8 0 0 (MQ below (hm_Qv D w s.heap.size (fun w2 => ∃ (J : Nat → Bool) (P2 : Nat), w2 = mM K w q ia ta J T b md td ag ((P2 : Nat) : Int) ∧ (∀ i, i < 32768 → J i = I i) ∧ ∀ S, isC (tB T b) b (cdC S) → ∀ u, u < 4096 → mS J 8 u = S u)) args s 0 0 (hm_A w s.heap.size)) (mM K w q ia ta J2 T b md td ag ((P + 2 + 8 + 16 * kk + 8 + 8 : Nat) : Int)) 91 [(5, .int (iI (((256 * h + B : Nat) : Int)))), (4, .int (iI ((kk : Int)))), (3, .int (iI (((NB + 1 : Nat) : Int)))), (2, .int (iI (((2 : Nat) : Int)))), (1, .int (iI ((h : Int)))), (0, .ref (q))] [.int (iI ((C : Int)))]
                        rw [show (2 : Nat) ^ 8 = 256 from rfl] at hCb
                        clear hM
                        have hM : mAt K (mM K w q ia ta J2 T b md td ag ((P + 2 + 8 + 16 * kk + 8 + 8 : Nat) : Int)) q ia ta J2 T b md td ag ((P + 2 + 8 + 16 * kk + 8 + 8 : Nat) : Int) := mAt_mM hm.n1 hm.n2 hm.n3
                        refine hv_iconst E dX7_takePieces_91 rfl ?_
                        refine hv_iadd E dX7_takePieces_92 rfl ?_
                        refine hv_goto E 116 dX7_takePieces_93 (by decide) ?_
                        refine hv_istore (lv2 := [(6, .int (iI (((C : Int)) + 1))), (5, .int (iI (((256 * h + B : Nat) : Int)))), (4, .int (iI ((kk : Int)))), (3, .int (iI (((NB + 1 : Nat) : Int)))), (2, .int (iI (((2 : Nat) : Int)))), (1, .int (iI ((h : Int)))), (0, .ref (q))]) E dX7_takePieces_116 (by decide) rfl rfl ?_
                        rw [show (C : Int) + 1 = ((C + 1 : Nat) : Int) by omega]
                        show hm_V p l e (hm_rm 3 0 0) s m args below meth c D (hm_A w s.heap.size) 8 0 0 (MQ below (hm_Qv D w s.heap.size (fun w2 => ∃ (J : Nat → Bool) (P2 : Nat), w2 = mM K w q ia ta J T b md td ag ((P2 : Nat) : Int) ∧ (∀ i, i < 32768 → J i = I i) ∧ ∀ S, isC (tB T b) b (cdC S) → ∀ u, u < 4096 → mS J 8 u = S u)) args s 0 0 (hm_A w s.heap.size)) (mM K w q ia ta J2 T b md td ag ((P + 2 + 8 + 16 * kk + 8 + 8 : Nat) : Int)) 118 [(6, .int (iI (((C + 1 : Nat) : Int)))), (5, .int (iI (((256 * h + B : Nat) : Int)))), (4, .int (iI ((kk : Int)))), (3, .int (iI (((NB + 1 : Nat) : Int)))), (2, .int (iI (((2 : Nat) : Int)))), (1, .int (iI ((h : Int)))), (0, .ref (q))] []
                        refine hv_iconst E dX7_takePieces_118 rfl ?_
                        refine hv_istore (lv2 := [(7, .int (iI (0))), (6, .int (iI (((C + 1 : Nat) : Int)))), (5, .int (iI (((256 * h + B : Nat) : Int)))), (4, .int (iI ((kk : Int)))), (3, .int (iI (((NB + 1 : Nat) : Int)))), (2, .int (iI (((2 : Nat) : Int)))), (1, .int (iI ((h : Int)))), (0, .ref (q))]) E dX7_takePieces_119 (by decide) rfl rfl ?_
                        show hm_V p l e (hm_rm 3 0 0) s m args below meth c D (hm_A w s.heap.size) 8 0 0 (MQ below (hm_Qv D w s.heap.size (fun w2 => ∃ (J : Nat → Bool) (P2 : Nat), w2 = mM K w q ia ta J T b md td ag ((P2 : Nat) : Int) ∧ (∀ i, i < 32768 → J i = I i) ∧ ∀ S, isC (tB T b) b (cdC S) → ∀ u, u < 4096 → mS J 8 u = S u)) args s 0 0 (hm_A w s.heap.size)) (mM K w q ia ta J2 T b md td ag ((P + 2 + 8 + 16 * kk + 8 + 8 : Nat) : Int)) 121 [(7, .int (iI (((0 : Nat) : Int)))), (6, .int (iI (((C + 1 : Nat) : Int)))), (5, .int (iI (((256 * h + B : Nat) : Int)))), (4, .int (iI ((kk : Int)))), (3, .int (iI (((NB + 1 : Nat) : Int)))), (2, .int (iI (((2 : Nat) : Int)))), (1, .int (iI ((h : Int)))), (0, .ref (q))] []
                        have ih1 := ih
                        have L3 : ∀ (k : Nat) (i : Nat) (J3 : Nat → Bool), (((C + 1 : Nat) : Int) - i < (k : Int)) → (i ≤ C + 1) → (B + i ≤ 256) → (∀ u, u < 32768 → J3 u = I u) → (∀ u, mS J3 8 u = (mS J2 8 u || decide (256 * h + B ≤ u ∧ u < 256 * h + (B + i)))) → hm_V p l e (hm_rm 3 0 0) s m args below meth c D (hm_A w s.heap.size) 8 0 0 (MQ below (hm_Qv D w s.heap.size (fun w2 => ∃ (J : Nat → Bool) (P2 : Nat), w2 = mM K w q ia ta J T b md td ag ((P2 : Nat) : Int) ∧ (∀ i, i < 32768 → J i = I i) ∧ ∀ S, isC (tB T b) b (cdC S) → ∀ u, u < 4096 → mS J 8 u = S u)) args s 0 0 (hm_A w s.heap.size)) (mM K w q ia ta J3 T b md td ag ((P + 2 + 8 + 16 * kk + 8 + 8 : Nat) : Int)) 121 [(7, .int (iI ((i : Int)))), (6, .int (iI (((C + 1 : Nat) : Int)))), (5, .int (iI (((256 * h + B : Nat) : Int)))), (4, .int (iI ((kk : Int)))), (3, .int (iI (((NB + 1 : Nat) : Int)))), (2, .int (iI (((2 : Nat) : Int)))), (1, .int (iI ((h : Int)))), (0, .ref (q))] [] := by
                          intro k
                          induction k with
                          | zero =>
                            intro i J3 hk3 i1 i2 hlo3 hJ3
                            exact absurd hk3 (by omega)
                          | succ k ih =>
                            intro i J3 hk3 i1 i2 hlo3 hJ3
                            have hM : mAt K (mM K w q ia ta J3 T b md td ag ((P + 2 + 8 + 16 * kk + 8 + 8 : Nat) : Int)) q ia ta J3 T b md td ag ((P + 2 + 8 + 16 * kk + 8 + 8 : Nat) : Int) := mAt_mM hm.n1 hm.n2 hm.n3
                            refine hv_iload E dX7_takePieces_121 0 rfl rfl ?_
                            refine hv_iload E dX7_takePieces_123 1 rfl rfl ?_
                            refine hv_icmp_ge E 158 dX7_takePieces_125 (by decide) ⟨by omega, by omega⟩ ⟨by omega, by omega⟩ rfl (fun c6 => ?_) (fun c6 => ?_)
                            · have hi : i = C + 1 ∨ B + i = 256 := Or.inl (by omega)
                              refine hv_iinc (lv2 := [(4, .int (iI (((kk : Int)) + 1))), (7, .int (iI ((i : Int)))), (6, .int (iI (((C + 1 : Nat) : Int)))), (5, .int (iI (((256 * h + B : Nat) : Int)))), (3, .int (iI (((NB + 1 : Nat) : Int)))), (2, .int (iI (((2 : Nat) : Int)))), (1, .int (iI ((h : Int)))), (0, .ref (q))]) E dX7_takePieces_158 3 rfl rfl (by decide) rfl rfl ?_
                              refine hv_goto E 50 dX7_takePieces_161 (by decide) ?_
                              rw [show P + 2 + 8 + 16 * kk + 8 + 8 = P + 2 + 8 + 16 * (kk + 1) by omega]
                              show hm_V p l e (hm_rm 3 0 0) s m args below meth c D (hm_A w s.heap.size) 8 0 0 (MQ below (hm_Qv D w s.heap.size (fun w2 => ∃ (J : Nat → Bool) (P2 : Nat), w2 = mM K w q ia ta J T b md td ag ((P2 : Nat) : Int) ∧ (∀ i, i < 32768 → J i = I i) ∧ ∀ S, isC (tB T b) b (cdC S) → ∀ u, u < 4096 → mS J 8 u = S u)) args s 0 0 (hm_A w s.heap.size)) (mM K w q ia ta J3 T b md td ag ((P + 2 + 8 + 16 * (kk + 1) : Nat) : Int)) 50 [(4, .int (iI (((kk + 1 : Nat) : Int)))), (7, .int (iI ((i : Int)))), (6, .int (iI (((C + 1 : Nat) : Int)))), (5, .int (iI (((256 * h + B : Nat) : Int)))), (3, .int (iI (((NB + 1 : Nat) : Int)))), (2, .int (iI (((2 : Nat) : Int)))), (1, .int (iI ((h : Int)))), (0, .ref (q))] []
                              refine hv_sub (lv2 := [(4, .int (iI (((kk + 1 : Nat) : Int)))), (3, .int (iI (((NB + 1 : Nat) : Int)))), (2, .int (iI (((2 : Nat) : Int)))), (1, .int (iI ((h : Int)))), (0, .ref (q))]) [0, 4, 5, 6, 7] rfl ?_
                              exact ih1 (kk + 1) J3 (by omega) (by omega) hlo3 (fun u h1 h2 => by rw [hJ3 u, hup2 u h1 h2, decide_eq_false (by omega)]; rfl) (fun S hS => (by
                                    obtain ⟨j, hj⟩ := hE2 S hS
                                    obtain ⟨s1, s2⟩ := pS_2 (cI_nx (hE S hS) hh hS) hb
                                    rw [← hNB] at s2
                                    obtain ⟨n1, n2, _⟩ := rI_nx hj (by omega) (by omega) s1 s2
                                    rw [← hB] at n1 n2
                                    rw [← hC] at n2
                                    have hi0 : i = C + 1 := by omega
                                    exact ⟨B + (C + 1), rI_step hj (by omega) (by omega) (by omega) hB (by rw [hC]) n1 (by omega) (fun u => by rw [hJ3 u, hi0])⟩))
                            · refine hv_iload E dX7_takePieces_128 2 rfl rfl ?_
                              refine hv_sipush E dX7_takePieces_130 (by decide +kernel) rfl ?_
                              refine hv_iremR E dX7_takePieces_133 (by decide +kernel) rfl rfl ?_
                              refine hv_topi (show (iI (((256 * h + B : Nat) : Int))) - (iI (((256 * h + B : Nat) : Int))) / (iI (256)) * (iI (256)) = iI ((((256 * h + B : Nat) : Int) % 256)) from iI_rem256 (by omega) (by omega)) ?_
                              refine hv_iload E dX7_takePieces_134 0 rfl rfl ?_
                              refine hv_iadd E dX7_takePieces_136 rfl ?_
                              refine hv_sipush E dX7_takePieces_137 (by decide +kernel) rfl ?_
                              refine hv_icmp_ge E 158 dX7_takePieces_140 (by decide) ⟨by omega, by omega⟩ ⟨by omega, by omega⟩ rfl (fun c7 => ?_) (fun c7 => ?_)
                              · have hi : i = C + 1 ∨ B + i = 256 := Or.inr (by omega)
                                refine hv_iinc (lv2 := [(4, .int (iI (((kk : Int)) + 1))), (7, .int (iI ((i : Int)))), (6, .int (iI (((C + 1 : Nat) : Int)))), (5, .int (iI (((256 * h + B : Nat) : Int)))), (3, .int (iI (((NB + 1 : Nat) : Int)))), (2, .int (iI (((2 : Nat) : Int)))), (1, .int (iI ((h : Int)))), (0, .ref (q))]) E dX7_takePieces_158 3 rfl rfl (by decide) rfl rfl ?_
                                refine hv_goto E 50 dX7_takePieces_161 (by decide) ?_
                                rw [show P + 2 + 8 + 16 * kk + 8 + 8 = P + 2 + 8 + 16 * (kk + 1) by omega]
                                show hm_V p l e (hm_rm 3 0 0) s m args below meth c D (hm_A w s.heap.size) 8 0 0 (MQ below (hm_Qv D w s.heap.size (fun w2 => ∃ (J : Nat → Bool) (P2 : Nat), w2 = mM K w q ia ta J T b md td ag ((P2 : Nat) : Int) ∧ (∀ i, i < 32768 → J i = I i) ∧ ∀ S, isC (tB T b) b (cdC S) → ∀ u, u < 4096 → mS J 8 u = S u)) args s 0 0 (hm_A w s.heap.size)) (mM K w q ia ta J3 T b md td ag ((P + 2 + 8 + 16 * (kk + 1) : Nat) : Int)) 50 [(4, .int (iI (((kk + 1 : Nat) : Int)))), (7, .int (iI ((i : Int)))), (6, .int (iI (((C + 1 : Nat) : Int)))), (5, .int (iI (((256 * h + B : Nat) : Int)))), (3, .int (iI (((NB + 1 : Nat) : Int)))), (2, .int (iI (((2 : Nat) : Int)))), (1, .int (iI ((h : Int)))), (0, .ref (q))] []
                                refine hv_sub (lv2 := [(4, .int (iI (((kk + 1 : Nat) : Int)))), (3, .int (iI (((NB + 1 : Nat) : Int)))), (2, .int (iI (((2 : Nat) : Int)))), (1, .int (iI ((h : Int)))), (0, .ref (q))]) [0, 4, 5, 6, 7] rfl ?_
                                exact ih1 (kk + 1) J3 (by omega) (by omega) hlo3 (fun u h1 h2 => by rw [hJ3 u, hup2 u h1 h2, decide_eq_false (by omega)]; rfl) (fun S hS => (by
                                      obtain ⟨j, hj⟩ := hE2 S hS
                                      obtain ⟨s1, s2⟩ := pS_2 (cI_nx (hE S hS) hh hS) hb
                                      rw [← hNB] at s2
                                      obtain ⟨n1, n2, _⟩ := rI_nx hj (by omega) (by omega) s1 s2
                                      rw [← hB] at n1 n2
                                      rw [← hC] at n2
                                      have hi0 : i = C + 1 := by omega
                                      exact ⟨B + (C + 1), rI_step hj (by omega) (by omega) (by omega) hB (by rw [hC]) n1 (by omega) (fun u => by rw [hJ3 u, hi0])⟩))
                              · refine hv_aload_n E dX7_takePieces_143 rfl 7 rfl rfl ?_
                                refine hv_iload E dX7_takePieces_144 2 rfl rfl ?_
                                refine hv_iload E dX7_takePieces_146 0 rfl rfl ?_
                                refine hv_iadd E dX7_takePieces_148 rfl ?_
                                refine hv_callVV (na := 1) (As := [.int (iI ((((256 * h + B : Nat) : Int)) + ((i : Int))))]) (st := []) E (c7_mark l D K (((256 * h + B : Nat) : Int) + (i : Int)) ⟨by omega, by omega⟩ hM) dX7_takePieces_149 hM.1 (show vwCl[6]? = some (RX7, TX7, 7) from rfl) gL_X7_122 gV_X7_mark gI_X7_mark gC_X7_mark gZ_X7 (by decide +kernel) rfl ⟨Nat.le_of_ble_eq_true rfl, Nat.le_of_ble_eq_true rfl⟩ (Nat.le_of_ble_eq_true rfl) ⟨Nat.zero_le _, Nat.zero_le _⟩ rfl rfl (fun w2 hp => ?_)
                                rw [mM_mM hm.n1 hm.n2 hm.n3] at hp
                                obtain ⟨J4, hJ4⟩ : ∃ zz, zz = mk J3 (((256 * h + B : Nat) : Int) + (i : Int)) := ⟨_, rfl⟩
                                rw [← hJ4] at hp
                                rw [hp]
                                show hm_V p l e (hm_rm 3 0 0) s m args below meth c D (hm_A w s.heap.size) 8 0 0 (MQ below (hm_Qv D w s.heap.size (fun w2 => ∃ (J : Nat → Bool) (P2 : Nat), w2 = mM K w q ia ta J T b md td ag ((P2 : Nat) : Int) ∧ (∀ i, i < 32768 → J i = I i) ∧ ∀ S, isC (tB T b) b (cdC S) → ∀ u, u < 4096 → mS J 8 u = S u)) args s 0 0 (hm_A w s.heap.size)) (mM K w q ia ta J4 T b md td ag ((P + 2 + 8 + 16 * kk + 8 + 8 : Nat) : Int)) 152 [(7, .int (iI ((i : Int)))), (6, .int (iI (((C + 1 : Nat) : Int)))), (5, .int (iI (((256 * h + B : Nat) : Int)))), (4, .int (iI ((kk : Int)))), (3, .int (iI (((NB + 1 : Nat) : Int)))), (2, .int (iI (((2 : Nat) : Int)))), (1, .int (iI ((h : Int)))), (0, .ref (q))] []
                                refine hv_iinc (lv2 := [(7, .int (iI (((i : Int)) + 1))), (6, .int (iI (((C + 1 : Nat) : Int)))), (5, .int (iI (((256 * h + B : Nat) : Int)))), (4, .int (iI ((kk : Int)))), (3, .int (iI (((NB + 1 : Nat) : Int)))), (2, .int (iI (((2 : Nat) : Int)))), (1, .int (iI ((h : Int)))), (0, .ref (q))]) E dX7_takePieces_152 0 rfl rfl (by decide) rfl rfl ?_
                                refine hv_goto E 121 dX7_takePieces_155 (by decide) ?_
                                show hm_V p l e (hm_rm 3 0 0) s m args below meth c D (hm_A w s.heap.size) 8 0 0 (MQ below (hm_Qv D w s.heap.size (fun w2 => ∃ (J : Nat → Bool) (P2 : Nat), w2 = mM K w q ia ta J T b md td ag ((P2 : Nat) : Int) ∧ (∀ i, i < 32768 → J i = I i) ∧ ∀ S, isC (tB T b) b (cdC S) → ∀ u, u < 4096 → mS J 8 u = S u)) args s 0 0 (hm_A w s.heap.size)) (mM K w q ia ta J4 T b md td ag ((P + 2 + 8 + 16 * kk + 8 + 8 : Nat) : Int)) 121 [(7, .int (iI (((i + 1 : Nat) : Int)))), (6, .int (iI (((C + 1 : Nat) : Int)))), (5, .int (iI (((256 * h + B : Nat) : Int)))), (4, .int (iI ((kk : Int)))), (3, .int (iI (((NB + 1 : Nat) : Int)))), (2, .int (iI (((2 : Nat) : Int)))), (1, .int (iI ((h : Int)))), (0, .ref (q))] []
                                refine hv_sub (lv2 := [(7, .int (iI (((i + 1 : Nat) : Int)))), (6, .int (iI (((C + 1 : Nat) : Int)))), (5, .int (iI (((256 * h + B : Nat) : Int)))), (4, .int (iI ((kk : Int)))), (3, .int (iI (((NB + 1 : Nat) : Int)))), (2, .int (iI (((2 : Nat) : Int)))), (1, .int (iI ((h : Int)))), (0, .ref (q))]) [0, 1, 2, 3, 4, 5, 6, 7] rfl ?_
                                exact ih (i + 1) J4 (by omega) (by omega) (by omega) (fun u hu => by rw [hJ4, mk_lo hu]; exact hlo3 u hu) (fun u => by
                                      rw [hJ4, show ((256 * h + B : Nat) : Int) + (i : Int) = ((256 * h + B + i : Nat) : Int) by omega, mk_sp (by omega), hJ3 u, Bool.or_assoc]
                                      congr 1
                                      by_cases q1 : u = 256 * h + B + i
                                      · rw [decide_eq_true q1, Bool.or_true, decide_eq_true (by omega)]
                                      · rw [decide_eq_false q1, Bool.or_false]; exact decide_eq_decide.mpr (by omega))
                        refine hv_sub (lv2 := [(7, .int (iI (((0 : Nat) : Int)))), (6, .int (iI (((C + 1 : Nat) : Int)))), (5, .int (iI (((256 * h + B : Nat) : Int)))), (4, .int (iI ((kk : Int)))), (3, .int (iI (((NB + 1 : Nat) : Int)))), (2, .int (iI (((2 : Nat) : Int)))), (1, .int (iI ((h : Int)))), (0, .ref (q))]) [0, 1, 2, 3, 4, 5, 6, 7] rfl ?_
                        exact L3 (C + 1 + 1) 0 J2 (by omega) (by omega) (by omega) hlo2 (fun u => by rw [decide_eq_false (by omega), Bool.or_false])
                    · exact absurd d13 (by omega)
              refine hv_sub (lv2 := [(4, .int (iI (((0 : Nat) : Int)))), (3, .int (iI (((NB + 1 : Nat) : Int)))), (2, .int (iI (((2 : Nat) : Int)))), (1, .int (iI ((h : Int)))), (0, .ref (q))]) [0, 1, 2, 3, 4] rfl ?_
              exact L2 (NB + 1 + 1) 0 J (by omega) (by omega) hlo (fun u h1 h2 => hup u (by omega) h2) (fun S hS => ⟨0, rI_0 hup⟩)
        · rw [hF]
          show hm_V p l e (hm_rm 3 0 0) s m args below meth c D (hm_A w s.heap.size) 8 0 0 (MQ below (hm_Qv D w s.heap.size (fun w2 => ∃ (J : Nat → Bool) (P2 : Nat), w2 = mM K w q ia ta J T b md td ag ((P2 : Nat) : Int) ∧ (∀ i, i < 32768 → J i = I i) ∧ ∀ S, isC (tB T b) b (cdC S) → ∀ u, u < 4096 → mS J 8 u = S u)) args s 0 0 (hm_A w s.heap.size)) (mM K w q ia ta J T b md td ag ((P + 2 : Nat) : Int)) 14 [(2, .int (iI (((3 : Nat) : Int)))), (1, .int (iI ((h : Int)))), (0, .ref (q))] []
          have hb : bv (tB T b) P 2 = 3 := by omega
          refine hv_iload_n E dX7_takePieces_14 rfl 0 rfl rfl ?_
          refine hv_if_eq E 23 dX7_takePieces_15 (by decide) ⟨by omega, by omega⟩ rfl (fun d15 => ?_) (fun d15 => ?_)
          · exact absurd d15 (by omega)
          · refine hv_iload_n E dX7_takePieces_18 rfl 0 rfl rfl ?_
            refine hv_iconst E dX7_takePieces_19 rfl ?_
            refine hv_icmp_ne E 34 dX7_takePieces_20 (by decide) ⟨by omega, by omega⟩ ⟨by omega, by omega⟩ rfl (fun d16 => ?_) (fun d16 => ?_)
            · refine hv_iload_n E dX7_takePieces_34 rfl 0 rfl rfl ?_
              refine hv_iconst E dX7_takePieces_35 rfl ?_
              refine hv_icmp_ne E 45 dX7_takePieces_36 (by decide) ⟨by omega, by omega⟩ ⟨by omega, by omega⟩ rfl (fun d17 => ?_) (fun d17 => ?_)
              · refine hv_iconst E dX7_takePieces_45 rfl ?_
                refine hv_istore_n (lv2 := [(3, .int (iI (0))), (2, .int (iI (((3 : Nat) : Int)))), (1, .int (iI ((h : Int)))), (0, .ref (q))]) E dX7_takePieces_46 rfl (by decide) rfl rfl ?_
                refine hv_iconst E dX7_takePieces_47 rfl ?_
                refine hv_istore (lv2 := [(4, .int (iI (0))), (3, .int (iI (0))), (2, .int (iI (((3 : Nat) : Int)))), (1, .int (iI ((h : Int)))), (0, .ref (q))]) E dX7_takePieces_48 (by decide) rfl rfl ?_
                refine hv_iload E dX7_takePieces_50 0 rfl rfl ?_
                refine hv_iload_n E dX7_takePieces_52 rfl 1 rfl rfl ?_
                refine hv_icmp_ge E 164 dX7_takePieces_53 (by decide) ⟨by omega, by omega⟩ ⟨by omega, by omega⟩ rfl (fun d18 => ?_) (fun d18 => ?_)
                · refine hv_iinc (lv2 := [(1, .int (iI (((h : Int)) + 1))), (4, .int (iI (0))), (3, .int (iI (0))), (2, .int (iI (((3 : Nat) : Int)))), (0, .ref (q))]) E dX7_takePieces_164 3 rfl rfl (by decide) rfl rfl ?_
                  refine hv_goto E 2 dX7_takePieces_167 (by decide) ?_
                  show hm_V p l e (hm_rm 3 0 0) s m args below meth c D (hm_A w s.heap.size) 8 0 0 (MQ below (hm_Qv D w s.heap.size (fun w2 => ∃ (J : Nat → Bool) (P2 : Nat), w2 = mM K w q ia ta J T b md td ag ((P2 : Nat) : Int) ∧ (∀ i, i < 32768 → J i = I i) ∧ ∀ S, isC (tB T b) b (cdC S) → ∀ u, u < 4096 → mS J 8 u = S u)) args s 0 0 (hm_A w s.heap.size)) (mM K w q ia ta J T b md td ag ((P + 2 : Nat) : Int)) 2 [(1, .int (iI (((h + 1 : Nat) : Int)))), (4, .int (iI (0))), (3, .int (iI (0))), (2, .int (iI (((3 : Nat) : Int)))), (0, .ref (q))] []
                  refine hv_sub (lv2 := [(1, .int (iI (((h + 1 : Nat) : Int)))), (0, .ref (q))]) [0, 4] rfl ?_
                  exact ih0 (h + 1) (P + 2) J (by omega) (by omega) (by omega) hlo (fun u h1 h2 => hup u (by omega) h2) (fun S hS => cI_m (hE S hS) hh hS (pE_3 hb hup hh rfl))
                · exact absurd d18 (by omega)
              · exact absurd d17 (by omega)
            · exact absurd d16 (by omega)
  refine hv_sub (lv2 := [(1, .int (iI (((0 : Nat) : Int)))), (0, .ref (q))]) [0, 1] rfl ?_
  exact LP 17 0 0 I (by omega) (by omega) (by omega) (fun _ _ => rfl) (fun u _ h => hU0 u h) (fun S _ => cI_0 hU0)
