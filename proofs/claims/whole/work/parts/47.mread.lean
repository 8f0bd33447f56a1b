theorem ag_isC {b : Int} (T : Nat → Bool) (c : List Bool) : ((tl 2 b (T, 0, true) c).2.2 && decide ((tl 2 b (T, 0, true) c).2.1 = b)) = true ↔ isC (tB T b) b c := by
  rw [Bool.and_eq_true, decide_eq_true_eq, tl_td, tl_2 b T 0 (by omega) true c]
  show (_ ∧ (0 : Int) + _ = b) ↔ _
  constructor
  · rintro ⟨⟨_, h1⟩, h2⟩
    refine ⟨by omega, fun i hi => ?_⟩
    obtain ⟨h3, h4⟩ := h1 i hi
    rw [← h4]
    unfold tB
    rw [decide_eq_true (by omega), Bool.true_and]
    rfl
  · rintro ⟨h1, h2⟩
    refine ⟨⟨rfl, fun i hi => ⟨by omega, ?_⟩⟩, by omega⟩
    have h3 := h2 i hi
    unfold tB at h3
    rw [decide_eq_true (by omega), Bool.true_and] at h3
    exact h3
/-- the tape is the code of one set at most -/
def uq (X : Nat → Bool) (L v : Int) : Prop := ∀ S1 S2 : Nat → Bool, isC X L (code_ S1 v) → isC X L (code_ S2 v) → ∀ u, u < 4096 → S1 u = S2 u
/-- the model's sets -/
abbrev mA (I : Nat → Bool) (s u : Nat) : Bool := I (4096 * s + u)
theorem isNth_cg {S U : Nat → Bool} {n z : Int} (h : ∀ u, u < 4096 → S u = U u) (hz : isNth S 4096 n z) : isNth U 4096 n z := by
  rcases hz with ⟨a1, a2⟩ | ⟨a1, a2, a3, a4⟩
  · refine Or.inl ⟨a1, ?_⟩
    rw [ct_congr (S := U) (T := S) (a := 0) (b := 0) (n := 4096) (fun i hi => (by rw [Nat.zero_add]; exact (h i hi).symm))]
    exact a2
  · refine Or.inr ⟨a1, a2, by rw [← h _ (by omega)]; exact a3, ?_⟩
    rw [ct_congr (S := U) (T := S) (a := 0) (b := 0) (n := z.toNat) (fun i hi => (by rw [Nat.zero_add]; exact (h i (by omega)).symm))]
    exact a4
set_option maxHeartbeats 4000000 in
set_option maxRecDepth 100000 in
theorem c7_isCode (l : Launch) (D : va_G) (K : Nat → ClassId) {w : hm_M} {q ia ta : Nat} {I T : Nat → Bool} {b md td : Int} {ag : Bool} {pl : Int} (kd : Int) (hk0 : 0 ≤ kd) (hk1 : kd ≤ 2) (hm : mAt K w q ia ta I T b md td ag pl) (hb0 : 0 ≤ b) (hb1 : b ≤ 8210)  : hm_Ci l D K yX7_isCode cX7_isCode 3 .boolean 7 [.ref (q), .int (iI (kd))] w 0 0 (fun r w2 => ∃ (J : Nat → Bool) (md2 td2 : Int) (ag2 : Bool) (pl2 : Int), r = bI ag2 ∧ w2 = mM K w q ia ta J T b md2 td2 ag2 pl2 ∧ (∀ i, i < 32768 → J i = I i) ∧ (ag2 = true ↔ isC (tB T b) b (code_ (mS J 8) kd)) ∧ ∀ S, isC (tB T b) b (code_ S kd) → ∀ u, u < 4096 → mS J 8 u = S u) := by
  refine hm_enterI (by decide) (Nat.le_of_ble_eq_true rfl) ?_
  intro p e s m args below meth c E hr hnm
  show hm_V p l e (hm_rm 7 0 0) s m args below meth c D (hm_A w s.heap.size) 3 0 0 (MQ below (hm_Qi D w s.heap.size (fun r w2 => ∃ (J : Nat → Bool) (md2 td2 : Int) (ag2 : Bool) (pl2 : Int), r = bI ag2 ∧ w2 = mM K w q ia ta J T b md2 td2 ag2 pl2 ∧ (∀ i, i < 32768 → J i = I i) ∧ (ag2 = true ↔ isC (tB T b) b (code_ (mS J 8) kd)) ∧ ∀ S, isC (tB T b) b (code_ S kd) → ∀ u, u < 4096 → mS J 8 u = S u)) args s 0 0 (hm_A w s.heap.size)) w 0 [(0, .ref (q)), (1, .int (iI (kd)))] []
  refine hv_mem (show w = mM K w q ia ta (fun (i : Nat) => if 32768 ≤ i ∧ i < 32768 + 0 then false else I i) T b md td ag pl from (by
      rw [show (fun (i : Nat) => if 32768 ≤ i ∧ i < 32768 + 0 then false else I i) = I from funext fun i => by rw [if_neg (by omega)]]
      exact mM_id hm)) ?_
  refine hv_iconst E dX7_isCode_0 rfl ?_
  refine hv_istore_n (lv2 := [(2, .int (iI (0))), (0, .ref (q)), (1, .int (iI (kd)))]) E dX7_isCode_1 rfl (by decide) rfl rfl ?_
  show hm_V p l e (hm_rm 7 0 0) s m args below meth c D (hm_A w s.heap.size) 3 0 0 (MQ below (hm_Qi D w s.heap.size (fun r w2 => ∃ (J : Nat → Bool) (md2 td2 : Int) (ag2 : Bool) (pl2 : Int), r = bI ag2 ∧ w2 = mM K w q ia ta J T b md2 td2 ag2 pl2 ∧ (∀ i, i < 32768 → J i = I i) ∧ (ag2 = true ↔ isC (tB T b) b (code_ (mS J 8) kd)) ∧ ∀ S, isC (tB T b) b (code_ S kd) → ∀ u, u < 4096 → mS J 8 u = S u)) args s 0 0 (hm_A w s.heap.size)) (mM K w q ia ta (fun (i : Nat) => if 32768 ≤ i ∧ i < 32768 + 0 then false else I i) T b md td ag pl) 2 [(2, .int (iI (((0 : Nat) : Int)))), (0, .ref (q)), (1, .int (iI (kd)))] []
  have LP : ∀ (k : Nat) (j : Nat), ((4096 : Int) - j < (k : Int)) → (j ≤ 4096) → hm_V p l e (hm_rm 7 0 0) s m args below meth c D (hm_A w s.heap.size) 3 0 0 (MQ below (hm_Qi D w s.heap.size (fun r w2 => ∃ (J : Nat → Bool) (md2 td2 : Int) (ag2 : Bool) (pl2 : Int), r = bI ag2 ∧ w2 = mM K w q ia ta J T b md2 td2 ag2 pl2 ∧ (∀ i, i < 32768 → J i = I i) ∧ (ag2 = true ↔ isC (tB T b) b (code_ (mS J 8) kd)) ∧ ∀ S, isC (tB T b) b (code_ S kd) → ∀ u, u < 4096 → mS J 8 u = S u)) args s 0 0 (hm_A w s.heap.size)) (mM K w q ia ta (fun (i : Nat) => if 32768 ≤ i ∧ i < 32768 + j then false else I i) T b md td ag pl) 2 [(2, .int (iI ((j : Int)))), (0, .ref (q)), (1, .int (iI (kd)))] [] := by
    intro k
    induction k with
    | zero =>
      intro j hk j1
      exact absurd hk (by omega)
    | succ k ih =>
      intro j hk j1
      have hM : mAt K (mM K w q ia ta (fun (i : Nat) => if 32768 ≤ i ∧ i < 32768 + j then false else I i) T b md td ag pl) q ia ta (fun (i : Nat) => if 32768 ≤ i ∧ i < 32768 + j then false else I i) T b md td ag pl := mAt_mM hm.n1 hm.n2 hm.n3
      refine hv_iload_n E dX7_isCode_2 rfl 0 rfl rfl ?_
      refine hv_sipush E dX7_isCode_3 (by decide +kernel) rfl ?_
      refine hv_icmp_ge E 25 dX7_isCode_6 (by decide) ⟨by omega, by omega⟩ ⟨by omega, by omega⟩ rfl (fun c1 => ?_) (fun c1 => ?_)
      · obtain ⟨I2, hI2⟩ : ∃ zz, zz = (fun (i : Nat) => if 32768 ≤ i ∧ i < 32768 + j then false else I i) := ⟨_, rfl⟩
        rw [← hI2] at hM ⊢
        show hm_V p l e (hm_rm 7 0 0) s m args below meth c D (hm_A w s.heap.size) 3 0 0 (MQ below (hm_Qi D w s.heap.size (fun r w2 => ∃ (J : Nat → Bool) (md2 td2 : Int) (ag2 : Bool) (pl2 : Int), r = bI ag2 ∧ w2 = mM K w q ia ta J T b md2 td2 ag2 pl2 ∧ (∀ i, i < 32768 → J i = I i) ∧ (ag2 = true ↔ isC (tB T b) b (code_ (mS J 8) kd)) ∧ ∀ S, isC (tB T b) b (code_ S kd) → ∀ u, u < 4096 → mS J 8 u = S u)) args s 0 0 (hm_A w s.heap.size)) (mM K w q ia ta I2 T b md td ag pl) 25 [(2, .int (iI ((j : Int)))), (0, .ref (q)), (1, .int (iI (kd)))] []
        have hlo : ∀ i, i < 32768 → I2 i = I i := fun i hi => by rw [hI2]; exact if_neg (by omega)
        have hU0 : ∀ u, u < 4096 → mS I2 8 u = false := fun u hu => by rw [hI2]; exact if_pos (by show 32768 ≤ 4096 * (8 : Int).toNat + u ∧ 4096 * (8 : Int).toNat + u < 32768 + j; omega)
        refine hv_aload_n E dX7_isCode_25 rfl 1 rfl rfl ?_
        refine hv_iconst E dX7_isCode_26 rfl ?_
        refine hv_put (kf := 6) (ty0 := tyX7) E dX7_isCode_27 (show vwCl[6]? = some (RX7, TX7, 7) from rfl) (by decide) gW_X7 tyX7_ok nmX7 gF_X7_102 rfl hM.1 rfl rfl rfl (Nat.le_of_ble_eq_true rfl) rfl ?_
        show hm_V p l e (hm_rm 7 0 0) s m args below meth c D (hm_A w s.heap.size) 3 0 0 (MQ below (hm_Qi D w s.heap.size (fun r w2 => ∃ (J : Nat → Bool) (md2 td2 : Int) (ag2 : Bool) (pl2 : Int), r = bI ag2 ∧ w2 = mM K w q ia ta J T b md2 td2 ag2 pl2 ∧ (∀ i, i < 32768 → J i = I i) ∧ (ag2 = true ↔ isC (tB T b) b (code_ (mS J 8) kd)) ∧ ∀ S, isC (tB T b) b (code_ S kd) → ∀ u, u < 4096 → mS J 8 u = S u)) args s 0 0 (hm_A w s.heap.size)) (hm_up (mM K w q ia ta I2 T b md td ag pl) q (.inr (6, [.ref ia, .ref ta, .int (iI b), .int (iI md), .int (iI td), .int (bI ag), .int (iI (0))]))) 30 [(2, .int (iI ((j : Int)))), (0, .ref (q)), (1, .int (iI (kd)))] []
        refine hv_mem (show _ = mM K w q ia ta I2 T b md td ag (((0 : Nat) : Int)) from mM_O) ?_
        have hM2 : mAt K (mM K w q ia ta I2 T b md td ag (((0 : Nat) : Int))) q ia ta I2 T b md td ag (((0 : Nat) : Int)) := mAt_mM hm.n1 hm.n2 hm.n3
        refine hv_iload_n E dX7_isCode_30 rfl 2 rfl rfl ?_
        refine hv_if_ne E 41 dX7_isCode_31 (by decide) ⟨by omega, by omega⟩ rfl (fun c2 => ?_) (fun c2 => ?_)
        · refine hv_iload_n E dX7_isCode_41 rfl 2 rfl rfl ?_
          refine hv_iconst E dX7_isCode_42 rfl ?_
          refine hv_icmp_ne E 53 dX7_isCode_43 (by decide) ⟨by omega, by omega⟩ ⟨by omega, by omega⟩ rfl (fun c3 => ?_) (fun c3 => ?_)
          · refine hv_aload_n E dX7_isCode_53 rfl 1 rfl rfl ?_
            refine hv_callVV (na := 0) (As := []) (st := []) E (c7_takePieces l D K hU0 hM2 hb0 hb1) dX7_isCode_54 hM2.1 (show vwCl[6]? = some (RX7, TX7, 7) from rfl) gL_X7_116 gV_X7_takePieces gI_X7_takePieces gC_X7_takePieces gZ_X7 (by decide +kernel) rfl ⟨Nat.le_of_ble_eq_true rfl, Nat.le_of_ble_eq_true rfl⟩ (Nat.le_of_ble_eq_true rfl) ⟨Nat.zero_le _, Nat.zero_le _⟩ rfl rfl (fun w2 hp => ?_)
            obtain ⟨J, P2, e2, hJ1, hJ2⟩ := hp
            rw [mM_mM hm.n1 hm.n2 hm.n3] at e2
            rw [e2]
            show hm_V p l e (hm_rm 7 0 0) s m args below meth c D (hm_A w s.heap.size) 3 0 0 (MQ below (hm_Qi D w s.heap.size (fun r w2 => ∃ (J : Nat → Bool) (md2 td2 : Int) (ag2 : Bool) (pl2 : Int), r = bI ag2 ∧ w2 = mM K w q ia ta J T b md2 td2 ag2 pl2 ∧ (∀ i, i < 32768 → J i = I i) ∧ (ag2 = true ↔ isC (tB T b) b (code_ (mS J 8) kd)) ∧ ∀ S, isC (tB T b) b (code_ S kd) → ∀ u, u < 4096 → mS J 8 u = S u)) args s 0 0 (hm_A w s.heap.size)) (mM K w q ia ta J T b md td ag (((P2 : Nat) : Int))) 57 [(2, .int (iI ((j : Int)))), (0, .ref (q)), (1, .int (iI (kd)))] []
            have hM3 : mAt K (mM K w q ia ta J T b md td ag (((P2 : Nat) : Int))) q ia ta J T b md td ag (((P2 : Nat) : Int)) := mAt_mM hm.n1 hm.n2 hm.n3
            refine hv_aload_n E dX7_isCode_57 rfl 1 rfl rfl ?_
            refine hv_bipush E dX7_isCode_58 (by decide +kernel) rfl ?_
            refine hv_iload_n E dX7_isCode_60 rfl 2 rfl rfl ?_
            refine hv_iconst E dX7_isCode_61 rfl ?_
            refine hv_callVV (na := 3) (As := [.int (iI (8)), .int (iI (kd)), .int (iI (2))]) (st := []) E (c7_code l D K 8 kd 2 (by omega) (by omega) hk0 hk1 (by omega) hM3 hb0 hb1) dX7_isCode_62 hM3.1 (show vwCl[6]? = some (RX7, TX7, 7) from rfl) gL_X7_98 gV_X7_code gI_X7_code gC_X7_code gZ_X7 (by decide +kernel) rfl ⟨Nat.le_of_ble_eq_true rfl, Nat.le_of_ble_eq_true rfl⟩ (Nat.le_of_ble_eq_true rfl) ⟨Nat.zero_le _, Nat.zero_le _⟩ rfl rfl (fun w3 hp => ?_)
            rw [mM_mM hm.n1 hm.n2 hm.n3, tl_2T] at hp
            obtain ⟨A2, hA2⟩ : ∃ zz, zz = ((tl 2 b (T, 0, true) (code_ (mS J 8) kd)).2.2 && decide ((tl 2 b (T, 0, true) (code_ (mS J 8) kd)).2.1 = b)) := ⟨_, rfl⟩
            have hag := ag_isC (b := b) T (code_ (mS J 8) kd)
            rw [← hA2] at hp hag
            obtain ⟨td2, htd2⟩ : ∃ zz, zz = (tl 2 b (T, 0, true) (code_ (mS J 8) kd)).2.1 := ⟨_, rfl⟩
            rw [← htd2] at hp
            rw [hp]
            show hm_V p l e (hm_rm 7 0 0) s m args below meth c D (hm_A w s.heap.size) 3 0 0 (MQ below (hm_Qi D w s.heap.size (fun r w2 => ∃ (J : Nat → Bool) (md2 td2 : Int) (ag2 : Bool) (pl2 : Int), r = bI ag2 ∧ w2 = mM K w q ia ta J T b md2 td2 ag2 pl2 ∧ (∀ i, i < 32768 → J i = I i) ∧ (ag2 = true ↔ isC (tB T b) b (code_ (mS J 8) kd)) ∧ ∀ S, isC (tB T b) b (code_ S kd) → ∀ u, u < 4096 → mS J 8 u = S u)) args s 0 0 (hm_A w s.heap.size)) (mM K w q ia ta J T b 2 td2 A2 (((P2 : Nat) : Int))) 65 [(2, .int (iI ((j : Int)))), (0, .ref (q)), (1, .int (iI (kd)))] []
            have hM4 : mAt K (mM K w q ia ta J T b 2 td2 A2 (((P2 : Nat) : Int))) q ia ta J T b 2 td2 A2 (((P2 : Nat) : Int)) := mAt_mM hm.n1 hm.n2 hm.n3
            refine hv_aload_n E dX7_isCode_65 rfl 1 rfl rfl ?_
            refine hv_get (kf := 5) E dX7_isCode_66 (show vwCl[6]? = some (RX7, TX7, 7) from rfl) (by decide) gW_X7 gF_X7_66 rfl hM4.1 rfl rfl ?_
            exact hv_zret E dX7_isCode_69 hr ⟨J, 2, td2, A2, _, rfl, rfl, fun i hi => (hJ1 i hi).trans (hlo i hi), hag, fun S hS => hJ2 S (by rw [← show code_ S kd = cdC S from (by unfold code_; rw [if_neg (by omega), if_neg (by omega)])]; exact hS)⟩
          · refine hv_aload_n E dX7_isCode_46 rfl 1 rfl rfl ?_
            refine hv_callVV (na := 0) (As := []) (st := []) E (c7_takeGaps l D K hU0 hM2 hb0 hb1) dX7_isCode_47 hM2.1 (show vwCl[6]? = some (RX7, TX7, 7) from rfl) gL_X7_113 gV_X7_takeGaps gI_X7_takeGaps gC_X7_takeGaps gZ_X7 (by decide +kernel) rfl ⟨Nat.le_of_ble_eq_true rfl, Nat.le_of_ble_eq_true rfl⟩ (Nat.le_of_ble_eq_true rfl) ⟨Nat.zero_le _, Nat.zero_le _⟩ rfl rfl (fun w2 hp => ?_)
            obtain ⟨J, P2, e2, hJ1, hJ2⟩ := hp
            rw [mM_mM hm.n1 hm.n2 hm.n3] at e2
            rw [e2]
            show hm_V p l e (hm_rm 7 0 0) s m args below meth c D (hm_A w s.heap.size) 3 0 0 (MQ below (hm_Qi D w s.heap.size (fun r w2 => ∃ (J : Nat → Bool) (md2 td2 : Int) (ag2 : Bool) (pl2 : Int), r = bI ag2 ∧ w2 = mM K w q ia ta J T b md2 td2 ag2 pl2 ∧ (∀ i, i < 32768 → J i = I i) ∧ (ag2 = true ↔ isC (tB T b) b (code_ (mS J 8) kd)) ∧ ∀ S, isC (tB T b) b (code_ S kd) → ∀ u, u < 4096 → mS J 8 u = S u)) args s 0 0 (hm_A w s.heap.size)) (mM K w q ia ta J T b md td ag (((P2 : Nat) : Int))) 50 [(2, .int (iI ((j : Int)))), (0, .ref (q)), (1, .int (iI (kd)))] []
            have hM3 : mAt K (mM K w q ia ta J T b md td ag (((P2 : Nat) : Int))) q ia ta J T b md td ag (((P2 : Nat) : Int)) := mAt_mM hm.n1 hm.n2 hm.n3
            refine hv_goto E 57 dX7_isCode_50 (by decide) ?_
            refine hv_aload_n E dX7_isCode_57 rfl 1 rfl rfl ?_
            refine hv_bipush E dX7_isCode_58 (by decide +kernel) rfl ?_
            refine hv_iload_n E dX7_isCode_60 rfl 2 rfl rfl ?_
            refine hv_iconst E dX7_isCode_61 rfl ?_
            refine hv_callVV (na := 3) (As := [.int (iI (8)), .int (iI (kd)), .int (iI (2))]) (st := []) E (c7_code l D K 8 kd 2 (by omega) (by omega) hk0 hk1 (by omega) hM3 hb0 hb1) dX7_isCode_62 hM3.1 (show vwCl[6]? = some (RX7, TX7, 7) from rfl) gL_X7_98 gV_X7_code gI_X7_code gC_X7_code gZ_X7 (by decide +kernel) rfl ⟨Nat.le_of_ble_eq_true rfl, Nat.le_of_ble_eq_true rfl⟩ (Nat.le_of_ble_eq_true rfl) ⟨Nat.zero_le _, Nat.zero_le _⟩ rfl rfl (fun w3 hp => ?_)
            rw [mM_mM hm.n1 hm.n2 hm.n3, tl_2T] at hp
            obtain ⟨A2, hA2⟩ : ∃ zz, zz = ((tl 2 b (T, 0, true) (code_ (mS J 8) kd)).2.2 && decide ((tl 2 b (T, 0, true) (code_ (mS J 8) kd)).2.1 = b)) := ⟨_, rfl⟩
            have hag := ag_isC (b := b) T (code_ (mS J 8) kd)
            rw [← hA2] at hp hag
            obtain ⟨td2, htd2⟩ : ∃ zz, zz = (tl 2 b (T, 0, true) (code_ (mS J 8) kd)).2.1 := ⟨_, rfl⟩
            rw [← htd2] at hp
            rw [hp]
            show hm_V p l e (hm_rm 7 0 0) s m args below meth c D (hm_A w s.heap.size) 3 0 0 (MQ below (hm_Qi D w s.heap.size (fun r w2 => ∃ (J : Nat → Bool) (md2 td2 : Int) (ag2 : Bool) (pl2 : Int), r = bI ag2 ∧ w2 = mM K w q ia ta J T b md2 td2 ag2 pl2 ∧ (∀ i, i < 32768 → J i = I i) ∧ (ag2 = true ↔ isC (tB T b) b (code_ (mS J 8) kd)) ∧ ∀ S, isC (tB T b) b (code_ S kd) → ∀ u, u < 4096 → mS J 8 u = S u)) args s 0 0 (hm_A w s.heap.size)) (mM K w q ia ta J T b 2 td2 A2 (((P2 : Nat) : Int))) 65 [(2, .int (iI ((j : Int)))), (0, .ref (q)), (1, .int (iI (kd)))] []
            have hM4 : mAt K (mM K w q ia ta J T b 2 td2 A2 (((P2 : Nat) : Int))) q ia ta J T b 2 td2 A2 (((P2 : Nat) : Int)) := mAt_mM hm.n1 hm.n2 hm.n3
            refine hv_aload_n E dX7_isCode_65 rfl 1 rfl rfl ?_
            refine hv_get (kf := 5) E dX7_isCode_66 (show vwCl[6]? = some (RX7, TX7, 7) from rfl) (by decide) gW_X7 gF_X7_66 rfl hM4.1 rfl rfl ?_
            exact hv_zret E dX7_isCode_69 hr ⟨J, 2, td2, A2, _, rfl, rfl, fun i hi => (hJ1 i hi).trans (hlo i hi), hag, fun S hS => hJ2 S (by rw [← show code_ S kd = cdG S from (by unfold code_; rw [if_neg (by omega), if_pos (by omega)])]; exact hS)⟩
        · refine hv_aload_n E dX7_isCode_34 rfl 1 rfl rfl ?_
          refine hv_callVV (na := 0) (As := []) (st := []) E (c7_takeParts l D K hU0 hM2 hb0 hb1) dX7_isCode_35 hM2.1 (show vwCl[6]? = some (RX7, TX7, 7) from rfl) gL_X7_110 gV_X7_takeParts gI_X7_takeParts gC_X7_takeParts gZ_X7 (by decide +kernel) rfl ⟨Nat.le_of_ble_eq_true rfl, Nat.le_of_ble_eq_true rfl⟩ (Nat.le_of_ble_eq_true rfl) ⟨Nat.zero_le _, Nat.zero_le _⟩ rfl rfl (fun w2 hp => ?_)
          obtain ⟨J, P2, e2, hJ1, hJ2⟩ := hp
          rw [mM_mM hm.n1 hm.n2 hm.n3] at e2
          rw [e2]
          show hm_V p l e (hm_rm 7 0 0) s m args below meth c D (hm_A w s.heap.size) 3 0 0 (MQ below (hm_Qi D w s.heap.size (fun r w2 => ∃ (J : Nat → Bool) (md2 td2 : Int) (ag2 : Bool) (pl2 : Int), r = bI ag2 ∧ w2 = mM K w q ia ta J T b md2 td2 ag2 pl2 ∧ (∀ i, i < 32768 → J i = I i) ∧ (ag2 = true ↔ isC (tB T b) b (code_ (mS J 8) kd)) ∧ ∀ S, isC (tB T b) b (code_ S kd) → ∀ u, u < 4096 → mS J 8 u = S u)) args s 0 0 (hm_A w s.heap.size)) (mM K w q ia ta J T b md td ag (((P2 : Nat) : Int))) 38 [(2, .int (iI ((j : Int)))), (0, .ref (q)), (1, .int (iI (kd)))] []
          have hM3 : mAt K (mM K w q ia ta J T b md td ag (((P2 : Nat) : Int))) q ia ta J T b md td ag (((P2 : Nat) : Int)) := mAt_mM hm.n1 hm.n2 hm.n3
          refine hv_goto E 57 dX7_isCode_38 (by decide) ?_
          refine hv_aload_n E dX7_isCode_57 rfl 1 rfl rfl ?_
          refine hv_bipush E dX7_isCode_58 (by decide +kernel) rfl ?_
          refine hv_iload_n E dX7_isCode_60 rfl 2 rfl rfl ?_
          refine hv_iconst E dX7_isCode_61 rfl ?_
          refine hv_callVV (na := 3) (As := [.int (iI (8)), .int (iI (kd)), .int (iI (2))]) (st := []) E (c7_code l D K 8 kd 2 (by omega) (by omega) hk0 hk1 (by omega) hM3 hb0 hb1) dX7_isCode_62 hM3.1 (show vwCl[6]? = some (RX7, TX7, 7) from rfl) gL_X7_98 gV_X7_code gI_X7_code gC_X7_code gZ_X7 (by decide +kernel) rfl ⟨Nat.le_of_ble_eq_true rfl, Nat.le_of_ble_eq_true rfl⟩ (Nat.le_of_ble_eq_true rfl) ⟨Nat.zero_le _, Nat.zero_le _⟩ rfl rfl (fun w3 hp => ?_)
          rw [mM_mM hm.n1 hm.n2 hm.n3, tl_2T] at hp
          obtain ⟨A2, hA2⟩ : ∃ zz, zz = ((tl 2 b (T, 0, true) (code_ (mS J 8) kd)).2.2 && decide ((tl 2 b (T, 0, true) (code_ (mS J 8) kd)).2.1 = b)) := ⟨_, rfl⟩
          have hag := ag_isC (b := b) T (code_ (mS J 8) kd)
          rw [← hA2] at hp hag
          obtain ⟨td2, htd2⟩ : ∃ zz, zz = (tl 2 b (T, 0, true) (code_ (mS J 8) kd)).2.1 := ⟨_, rfl⟩
          rw [← htd2] at hp
          rw [hp]
          show hm_V p l e (hm_rm 7 0 0) s m args below meth c D (hm_A w s.heap.size) 3 0 0 (MQ below (hm_Qi D w s.heap.size (fun r w2 => ∃ (J : Nat → Bool) (md2 td2 : Int) (ag2 : Bool) (pl2 : Int), r = bI ag2 ∧ w2 = mM K w q ia ta J T b md2 td2 ag2 pl2 ∧ (∀ i, i < 32768 → J i = I i) ∧ (ag2 = true ↔ isC (tB T b) b (code_ (mS J 8) kd)) ∧ ∀ S, isC (tB T b) b (code_ S kd) → ∀ u, u < 4096 → mS J 8 u = S u)) args s 0 0 (hm_A w s.heap.size)) (mM K w q ia ta J T b 2 td2 A2 (((P2 : Nat) : Int))) 65 [(2, .int (iI ((j : Int)))), (0, .ref (q)), (1, .int (iI (kd)))] []
          have hM4 : mAt K (mM K w q ia ta J T b 2 td2 A2 (((P2 : Nat) : Int))) q ia ta J T b 2 td2 A2 (((P2 : Nat) : Int)) := mAt_mM hm.n1 hm.n2 hm.n3
          refine hv_aload_n E dX7_isCode_65 rfl 1 rfl rfl ?_
          refine hv_get (kf := 5) E dX7_isCode_66 (show vwCl[6]? = some (RX7, TX7, 7) from rfl) (by decide) gW_X7 gF_X7_66 rfl hM4.1 rfl rfl ?_
          exact hv_zret E dX7_isCode_69 hr ⟨J, 2, td2, A2, _, rfl, rfl, fun i hi => (hJ1 i hi).trans (hlo i hi), hag, fun S hS => hJ2 S (by rw [← show code_ S kd = cdP S from (by unfold code_; rw [if_pos (by omega)])]; exact hS)⟩
      · refine hv_aload_n E dX7_isCode_9 rfl 1 rfl rfl ?_
        refine hv_get (kf := 0) E dX7_isCode_10 (show vwCl[6]? = some (RX7, TX7, 7) from rfl) (by decide) gW_X7 gF_X7_8 rfl hM.1 rfl rfl ?_
        refine hv_ldc E dX7_isCode_13 gK_X7_109 rfl ?_
        refine hv_topi (show (32768 : Int32) = iI (32768) from rfl) ?_
        refine hv_iload_n E dX7_isCode_15 rfl 0 rfl rfl ?_
        refine hv_iadd E dX7_isCode_16 rfl ?_
        refine hv_iconst E dX7_isCode_17 rfl ?_
        refine hv_topi (show iI (0) = bI (false) from rfl) ?_
        refine hv_zast E dX7_isCode_18 hM.2.1 (by omega) (by omega) (by decide) rfl ?_
        refine hv_mem (show hm_up (mM K w q ia ta (fun (i : Nat) => if 32768 ≤ i ∧ i < 32768 + j then false else I i) T b md td ag pl) ia (mE K (va_up (fun (i : Nat) => if 32768 ≤ i ∧ i < 32768 + j then false else I i) (32768 + (j : Int)).toNat false)) = mM K w q ia ta (fun (i : Nat) => if 32768 ≤ i ∧ i < 32768 + (j + 1) then false else I i) T b md td ag pl from (by
              rw [mM_I hm.n1 hm.n3]
              congr 1
              funext i
              show (if i = _ then _ else _) = _
              by_cases hi : i = (32768 + (j : Int)).toNat
              · rw [if_pos hi, if_pos (by omega)]
              · rw [if_neg hi]
                show (if _ then _ else _) = _
                by_cases hi2 : 32768 ≤ i ∧ i < 32768 + j
                · rw [if_pos hi2, if_pos (by omega)]
                · rw [if_neg hi2, if_neg (by omega)])) ?_
        refine hv_iinc (lv2 := [(2, .int (iI (((j : Int)) + 1))), (0, .ref (q)), (1, .int (iI (kd)))]) E dX7_isCode_19 0 rfl rfl (by decide) rfl rfl ?_
        refine hv_goto E 2 dX7_isCode_22 (by decide) ?_
        show hm_V p l e (hm_rm 7 0 0) s m args below meth c D (hm_A w s.heap.size) 3 0 0 (MQ below (hm_Qi D w s.heap.size (fun r w2 => ∃ (J : Nat → Bool) (md2 td2 : Int) (ag2 : Bool) (pl2 : Int), r = bI ag2 ∧ w2 = mM K w q ia ta J T b md2 td2 ag2 pl2 ∧ (∀ i, i < 32768 → J i = I i) ∧ (ag2 = true ↔ isC (tB T b) b (code_ (mS J 8) kd)) ∧ ∀ S, isC (tB T b) b (code_ S kd) → ∀ u, u < 4096 → mS J 8 u = S u)) args s 0 0 (hm_A w s.heap.size)) (mM K w q ia ta (fun (i : Nat) => if 32768 ≤ i ∧ i < 32768 + (j + 1) then false else I i) T b md td ag pl) 2 [(2, .int (iI (((j + 1 : Nat) : Int)))), (0, .ref (q)), (1, .int (iI (kd)))] []
        refine hv_sub (lv2 := [(2, .int (iI (((j + 1 : Nat) : Int)))), (0, .ref (q)), (1, .int (iI (kd)))]) [0, 1, 2] rfl ?_
        exact ih (j + 1) (by omega) (by omega)
  refine hv_sub (lv2 := [(2, .int (iI (((0 : Nat) : Int)))), (0, .ref (q)), (1, .int (iI (kd)))]) [0, 1, 2] rfl ?_
  exact LP 4097 0 (by omega) (by omega)
set_option maxHeartbeats 4000000 in
set_option maxRecDepth 100000 in
theorem c7_read (l : Launch) (D : va_G) (K : Nat → ClassId) {w : hm_M} {q ia ta : Nat} {I T : Nat → Bool} {b md td : Int} {ag : Bool} {pl : Int} (x v : Int) (hx : iB x) (hv : iB v) (hm : mAt K w q ia ta I T b md td ag pl) (hb0 : 0 ≤ b) (hb1 : b ≤ 8210)  : hm_Ci l D K yX7_read cX7_read 4 .int 8 [.ref (q), .int (iI (x)), .int (iI (v))] w 0 0 (fun r w2 => ∃ (J : Nat → Bool) (md2 td2 : Int) (ag2 : Bool) (pl2 z : Int), r = iI z ∧ w2 = mM K w q ia ta J T b md2 td2 ag2 pl2 ∧ rdP (tB T b) b x v z (mA I) (mA J) ∧ (0 ≤ x ∧ x < 8 → 0 ≤ v ∧ v < 3 → uq (tB T b) b v)) := by
  refine hm_enterI (by decide) (Nat.le_of_ble_eq_true rfl) ?_
  intro p e s m args below meth c E hr hnm
  show hm_V p l e (hm_rm 8 0 0) s m args below meth c D (hm_A w s.heap.size) 4 0 0 (MQ below (hm_Qi D w s.heap.size (fun r w2 => ∃ (J : Nat → Bool) (md2 td2 : Int) (ag2 : Bool) (pl2 z : Int), r = iI z ∧ w2 = mM K w q ia ta J T b md2 td2 ag2 pl2 ∧ rdP (tB T b) b x v z (mA I) (mA J) ∧ (0 ≤ x ∧ x < 8 → 0 ≤ v ∧ v < 3 → uq (tB T b) b v))) args s 0 0 (hm_A w s.heap.size)) w 0 [(0, .ref (q)), (1, .int (iI (x))), (2, .int (iI (v)))] []
  refine hv_iload_n E dX7_read_0 rfl 1 rfl rfl ?_
  refine hv_callSI (na := 1) (As := [.int (iI (x))]) (st := []) E (c7_isSet l D K x hx) dX7_read_1 gL_X7_21 gS_X7_isSet gC_X7_isSet gZ_X7 (by decide +kernel) rfl ⟨Nat.le_of_ble_eq_true rfl, Nat.le_of_ble_eq_true rfl⟩ (Nat.le_of_ble_eq_true rfl) ⟨Nat.zero_le _, Nat.zero_le _⟩ rfl rfl (fun r w2 hp => ?_)
  rw [hp.1, hp.2]
  show hm_V p l e (hm_rm 8 0 0) s m args below meth c D (hm_A w s.heap.size) 4 0 0 (MQ below (hm_Qi D w s.heap.size (fun r w2 => ∃ (J : Nat → Bool) (md2 td2 : Int) (ag2 : Bool) (pl2 z : Int), r = iI z ∧ w2 = mM K w q ia ta J T b md2 td2 ag2 pl2 ∧ rdP (tB T b) b x v z (mA I) (mA J) ∧ (0 ≤ x ∧ x < 8 → 0 ≤ v ∧ v < 3 → uq (tB T b) b v))) args s 0 0 (hm_A w s.heap.size)) w 4 [(0, .ref (q)), (1, .int (iI (x))), (2, .int (iI (v)))] [.int (bI (decide (0 ≤ x ∧ x ≤ 7)))]
  refine hv_if_neB E 10 dX7_read_4 (by decide) rfl (fun c1 => ?_) (fun c1 => ?_)
  · have c1 := of_decide_eq_true c1
    refine hv_iload_n E dX7_read_10 rfl 2 rfl rfl ?_
    refine hv_iconst E dX7_read_11 rfl ?_
    refine hv_iconst E dX7_read_12 rfl ?_
    refine hv_callSI (na := 3) (As := [.int (iI (v)), .int (iI (0)), .int (iI (2))]) (st := []) E (c7_within l D K v 0 2 hv ⟨by omega, by omega⟩ ⟨by omega, by omega⟩) dX7_read_13 gL_X7_17 gS_X7_within gC_X7_within gZ_X7 (by decide +kernel) rfl ⟨Nat.le_of_ble_eq_true rfl, Nat.le_of_ble_eq_true rfl⟩ (Nat.le_of_ble_eq_true rfl) ⟨Nat.zero_le _, Nat.zero_le _⟩ rfl rfl (fun r w2 hp => ?_)
    rw [hp.1, hp.2]
    show hm_V p l e (hm_rm 8 0 0) s m args below meth c D (hm_A w s.heap.size) 4 0 0 (MQ below (hm_Qi D w s.heap.size (fun r w2 => ∃ (J : Nat → Bool) (md2 td2 : Int) (ag2 : Bool) (pl2 z : Int), r = iI z ∧ w2 = mM K w q ia ta J T b md2 td2 ag2 pl2 ∧ rdP (tB T b) b x v z (mA I) (mA J) ∧ (0 ≤ x ∧ x < 8 → 0 ≤ v ∧ v < 3 → uq (tB T b) b v))) args s 0 0 (hm_A w s.heap.size)) w 16 [(0, .ref (q)), (1, .int (iI (x))), (2, .int (iI (v)))] [.int (bI (decide (0 ≤ v ∧ v ≤ 2)))]
    refine hv_if_neB E 22 dX7_read_16 (by decide) rfl (fun c2 => ?_) (fun c2 => ?_)
    · have c2 := of_decide_eq_true c2
      refine hv_aload_n E dX7_read_22 rfl 0 rfl rfl ?_
      refine hv_iload_n E dX7_read_23 rfl 2 rfl rfl ?_
      have hX : 0 ≤ x ∧ x < 8 := by omega
      have hV : 0 ≤ v ∧ v < 3 := by omega
      refine hv_callVI (na := 1) (As := [.int (iI (v))]) (st := []) E (c7_isCode l D K v (by omega) (by omega) hm hb0 hb1) dX7_read_24 hm.1 (show vwCl[6]? = some (RX7, TX7, 7) from rfl) gL_X7_125 gV_X7_isCode gI_X7_isCode gC_X7_isCode gZ_X7 (by decide +kernel) rfl ⟨Nat.le_of_ble_eq_true rfl, Nat.le_of_ble_eq_true rfl⟩ (Nat.le_of_ble_eq_true rfl) ⟨Nat.zero_le _, Nat.zero_le _⟩ rfl rfl (fun r w2 hp => ?_)
      obtain ⟨J, md2, td2, ag2, pl2, h1, h2, h3, h4, h5⟩ := hp
      rw [h1, h2]
      show hm_V p l e (hm_rm 8 0 0) s m args below meth c D (hm_A w s.heap.size) 4 0 0 (MQ below (hm_Qi D w s.heap.size (fun r w2 => ∃ (J : Nat → Bool) (md2 td2 : Int) (ag2 : Bool) (pl2 z : Int), r = iI z ∧ w2 = mM K w q ia ta J T b md2 td2 ag2 pl2 ∧ rdP (tB T b) b x v z (mA I) (mA J) ∧ (0 ≤ x ∧ x < 8 → 0 ≤ v ∧ v < 3 → uq (tB T b) b v))) args s 0 0 (hm_A w s.heap.size)) (mM K w q ia ta J T b md2 td2 ag2 pl2) 27 [(0, .ref (q)), (1, .int (iI (x))), (2, .int (iI (v)))] [.int (bI (ag2))]
      have hM : mAt K (mM K w q ia ta J T b md2 td2 ag2 pl2) q ia ta J T b md2 td2 ag2 pl2 := mAt_mM hm.n1 hm.n2 hm.n3
      have hu : uq (tB T b) b v := fun S1 S2 k1 k2 u hu => (h5 S1 k1 u hu).symm.trans (h5 S2 k2 u hu)
      have hno : ag2 = false → ∀ S, ¬ isC (tB T b) b (code_ S v) := fun ha S hS => (by
        have h6 := h4.mpr (by rw [code_cg v (h5 S hS)]; exact hS)
        rw [ha] at h6; cases h6)
      have hlo : ∀ s u : Nat, s < 8 → u < 4096 → mA J s u = mA I s u := fun s u hs hu => h3 _ (by omega)
      refine hv_if_neB E 32 dX7_read_27 (by decide) rfl (fun ca => ?_) (fun ca => ?_)
      · have hc := h4.mp ca
        refine hv_mem (show mM K w q ia ta J T b md2 td2 ag2 pl2 = mM K w q ia ta (fun (i : Nat) => if 4096 * x ≤ (i : Int) ∧ (i : Int) < 4096 * x + 0 then mS J 8 (i - 4096 * x.toNat) else J i) T b md2 td2 ag2 pl2 from (by
              rw [show (fun (i : Nat) => if 4096 * x ≤ (i : Int) ∧ (i : Int) < 4096 * x + 0 then mS J 8 (i - 4096 * x.toNat) else J i) = J from funext fun i => by rw [if_neg (by omega)]])) ?_
        refine hv_iconst E dX7_read_32 rfl ?_
        refine hv_istore_n (lv2 := [(3, .int (iI (0))), (0, .ref (q)), (1, .int (iI (x))), (2, .int (iI (v)))]) E dX7_read_33 rfl (by decide) rfl rfl ?_
        have LP : ∀ (k : Nat) (j : Int), (4096 - j < (k : Int)) → (0 ≤ j) → (j ≤ 4096) → hm_V p l e (hm_rm 8 0 0) s m args below meth c D (hm_A w s.heap.size) 4 0 0 (MQ below (hm_Qi D w s.heap.size (fun r w2 => ∃ (J : Nat → Bool) (md2 td2 : Int) (ag2 : Bool) (pl2 z : Int), r = iI z ∧ w2 = mM K w q ia ta J T b md2 td2 ag2 pl2 ∧ rdP (tB T b) b x v z (mA I) (mA J) ∧ (0 ≤ x ∧ x < 8 → 0 ≤ v ∧ v < 3 → uq (tB T b) b v))) args s 0 0 (hm_A w s.heap.size)) (mM K w q ia ta (fun (i : Nat) => if 4096 * x ≤ (i : Int) ∧ (i : Int) < 4096 * x + j then mS J 8 (i - 4096 * x.toNat) else J i) T b md2 td2 ag2 pl2) 34 [(3, .int (iI (j))), (0, .ref (q)), (1, .int (iI (x))), (2, .int (iI (v)))] [] := by
          intro k
          induction k with
          | zero =>
            intro j hk g0 g1
            exact absurd hk (by omega)
          | succ k ih =>
            intro j hk g0 g1
            have hM2 : mAt K (mM K w q ia ta (fun (i : Nat) => if 4096 * x ≤ (i : Int) ∧ (i : Int) < 4096 * x + j then mS J 8 (i - 4096 * x.toNat) else J i) T b md2 td2 ag2 pl2) q ia ta (fun (i : Nat) => if 4096 * x ≤ (i : Int) ∧ (i : Int) < 4096 * x + j then mS J 8 (i - 4096 * x.toNat) else J i) T b md2 td2 ag2 pl2 := mAt_mM hm.n1 hm.n2 hm.n3
            have hJ8 : j < 4096 → mS (fun (i : Nat) => if 4096 * x ≤ (i : Int) ∧ (i : Int) < 4096 * x + j then mS J 8 (i - 4096 * x.toNat) else J i) 8 j.toNat = mS J 8 j.toNat := fun _ => by show (if _ then _ else _) = _; rw [if_neg (by show ¬ (4096 * x ≤ ((4096 * (8 : Int).toNat + j.toNat : Nat) : Int) ∧ ((4096 * (8 : Int).toNat + j.toNat : Nat) : Int) < 4096 * x + j); omega)]; rfl
            refine hv_iload_n E dX7_read_34 rfl 0 rfl rfl ?_
            refine hv_sipush E dX7_read_35 (by decide +kernel) rfl ?_
            refine hv_icmp_ge E 66 dX7_read_38 (by decide) ⟨by omega, by omega⟩ ⟨by omega, by omega⟩ rfl (fun c9 => ?_) (fun c9 => ?_)
            · obtain ⟨J2, hJ2⟩ : ∃ zz, zz = (fun (i : Nat) => if 4096 * x ≤ (i : Int) ∧ (i : Int) < 4096 * x + j then mS J 8 (i - 4096 * x.toNat) else J i) := ⟨_, rfl⟩
              rw [← hJ2] at hM2 ⊢
              show hm_V p l e (hm_rm 8 0 0) s m args below meth c D (hm_A w s.heap.size) 4 0 0 (MQ below (hm_Qi D w s.heap.size (fun r w2 => ∃ (J : Nat → Bool) (md2 td2 : Int) (ag2 : Bool) (pl2 z : Int), r = iI z ∧ w2 = mM K w q ia ta J T b md2 td2 ag2 pl2 ∧ rdP (tB T b) b x v z (mA I) (mA J) ∧ (0 ≤ x ∧ x < 8 → 0 ≤ v ∧ v < 3 → uq (tB T b) b v))) args s 0 0 (hm_A w s.heap.size)) (mM K w q ia ta J2 T b md2 td2 ag2 pl2) 66 [(3, .int (iI (j))), (0, .ref (q)), (1, .int (iI (x))), (2, .int (iI (v)))] []
              have hj : j = 4096 := by omega
              have hat : ∀ u, u < 4096 → mS J2 x u = mS J 8 u := fun u hu => by
                rw [hJ2, hj]; show (if _ then _ else _) = _
                rw [if_pos (by show 4096 * x ≤ ((4096 * x.toNat + u : Nat) : Int) ∧ ((4096 * x.toNat + u : Nat) : Int) < 4096 * x + 4096; omega), show 4096 * x.toNat + u - 4096 * x.toNat = u by omega]
              refine hv_aload_n E dX7_read_66 rfl 1 rfl rfl ?_
              refine hv_iload_n E dX7_read_67 rfl 2 rfl rfl ?_
              refine hv_iconst E dX7_read_68 rfl ?_
              refine hv_sipush E dX7_read_69 (by decide +kernel) rfl ?_
              refine hv_callVI (na := 3) (As := [.int (iI (x)), .int (iI (0)), .int (iI (4096))]) (st := []) E (c7_many l D K x 0 4096 (by omega) (by omega) (by omega) (by omega) (by omega) hM2.i) dX7_read_72 hM2.1 (show vwCl[6]? = some (RX7, TX7, 7) from rfl) gL_X7_36 gV_X7_many gI_X7_many gC_X7_many gZ_X7 (by decide +kernel) rfl ⟨Nat.le_of_ble_eq_true rfl, Nat.le_of_ble_eq_true rfl⟩ (Nat.le_of_ble_eq_true rfl) ⟨Nat.zero_le _, Nat.zero_le _⟩ rfl rfl (fun r w2 hp => ?_)
              rw [hp.1, hp.2]
              show hm_V p l e (hm_rm 8 0 0) s m args below meth c D (hm_A w s.heap.size) 4 0 0 (MQ below (hm_Qi D w s.heap.size (fun r w2 => ∃ (J : Nat → Bool) (md2 td2 : Int) (ag2 : Bool) (pl2 z : Int), r = iI z ∧ w2 = mM K w q ia ta J T b md2 td2 ag2 pl2 ∧ rdP (tB T b) b x v z (mA I) (mA J) ∧ (0 ≤ x ∧ x < 8 → 0 ≤ v ∧ v < 3 → uq (tB T b) b v))) args s 0 0 (hm_A w s.heap.size)) (mM K w q ia ta J2 T b md2 td2 ag2 pl2) 75 [(3, .int (iI (j))), (0, .ref (q)), (1, .int (iI (x))), (2, .int (iI (v)))] [.int (iI ((ct (mS J2 x) (0 : Int).toNat (4096 - 0 : Int).toNat : Nat)))]
              exact hv_iret E dX7_read_75 hr ⟨J2, md2, td2, ag2, pl2, _, rfl, rfl, Or.inr (Or.inr (Or.inr ⟨hX, hV, mS J 8, hc, by
                    rw [show (0 : Int).toNat = 0 from rfl, show (4096 - 0 : Int).toNat = 4096 from rfl]
                    exact congrArg (fun n : Nat => (n : Int)) (ct_congr (fun i hi => by rw [Nat.zero_add]; exact hat i hi)), fun s u hs hu => (by
                    by_cases hs2 : s = x.toNat
                    · rw [if_pos hs2, hs2]; exact hat u hu
                    · rw [if_neg hs2, ← hlo s u hs hu]
                      show J2 _ = _
                      rw [hJ2]; exact if_neg (by omega))⟩)), fun _ _ => hu⟩
            · refine hv_aload_n E dX7_read_41 rfl 1 rfl rfl ?_
              refine hv_get (kf := 0) E dX7_read_42 (show vwCl[6]? = some (RX7, TX7, 7) from rfl) (by decide) gW_X7 gF_X7_8 rfl hM2.1 rfl rfl ?_
              refine hv_sipush E dX7_read_45 (by decide +kernel) rfl ?_
              refine hv_iload_n E dX7_read_48 rfl 2 rfl rfl ?_
              refine hv_imul E dX7_read_49 rfl ?_
              refine hv_iload_n E dX7_read_50 rfl 0 rfl rfl ?_
              refine hv_iadd E dX7_read_51 rfl ?_
              refine hv_aload_n E dX7_read_52 rfl 1 rfl rfl ?_
              refine hv_bipush E dX7_read_53 (by decide +kernel) rfl ?_
              refine hv_iload_n E dX7_read_55 rfl 0 rfl rfl ?_
              refine hv_callVI (na := 2) (As := [.int (iI (8)), .int (iI (j))]) (st := [.int (iI ((4096 * x) + j)), .ref (ia)]) E (c7_is l D K 8 j (by omega) (by omega) (by omega) (by omega) hM2.i) dX7_read_56 hM2.1 (show vwCl[6]? = some (RX7, TX7, 7) from rfl) gL_X7_28 gV_X7_is gI_X7_is gC_X7_is gZ_X7 (by decide +kernel) rfl ⟨Nat.le_of_ble_eq_true rfl, Nat.le_of_ble_eq_true rfl⟩ (Nat.le_of_ble_eq_true rfl) ⟨Nat.zero_le _, Nat.zero_le _⟩ rfl rfl (fun r w2 hp => ?_)
              rw [hJ8 (by omega)] at hp
              rw [hp.1, hp.2]
              show hm_V p l e (hm_rm 8 0 0) s m args below meth c D (hm_A w s.heap.size) 4 0 0 (MQ below (hm_Qi D w s.heap.size (fun r w2 => ∃ (J : Nat → Bool) (md2 td2 : Int) (ag2 : Bool) (pl2 z : Int), r = iI z ∧ w2 = mM K w q ia ta J T b md2 td2 ag2 pl2 ∧ rdP (tB T b) b x v z (mA I) (mA J) ∧ (0 ≤ x ∧ x < 8 → 0 ≤ v ∧ v < 3 → uq (tB T b) b v))) args s 0 0 (hm_A w s.heap.size)) (mM K w q ia ta (fun (i : Nat) => if 4096 * x ≤ (i : Int) ∧ (i : Int) < 4096 * x + j then mS J 8 (i - 4096 * x.toNat) else J i) T b md2 td2 ag2 pl2) 59 [(3, .int (iI (j))), (0, .ref (q)), (1, .int (iI (x))), (2, .int (iI (v)))] [.int (bI (mS J 8 j.toNat)), .int (iI ((4096 * x) + j)), .ref (ia)]
              refine hv_zast E dX7_read_59 hM2.2.1 (by omega) (by omega) (by decide) rfl ?_
              refine hv_mem (show hm_up (mM K w q ia ta (fun (i : Nat) => if 4096 * x ≤ (i : Int) ∧ (i : Int) < 4096 * x + j then mS J 8 (i - 4096 * x.toNat) else J i) T b md2 td2 ag2 pl2) ia (mE K (va_up (fun (i : Nat) => if 4096 * x ≤ (i : Int) ∧ (i : Int) < 4096 * x + j then mS J 8 (i - 4096 * x.toNat) else J i) (4096 * x + j).toNat (mS J 8 j.toNat))) = mM K w q ia ta (fun (i : Nat) => if 4096 * x ≤ (i : Int) ∧ (i : Int) < 4096 * x + (j + 1) then mS J 8 (i - 4096 * x.toNat) else J i) T b md2 td2 ag2 pl2 from (by
                        rw [mM_I hm.n1 hm.n3]
                        congr 1
                        funext i
                        show (if i = _ then _ else _) = _
                        by_cases hi : i = (4096 * x + j).toNat
                        · rw [if_pos hi, if_pos (by omega), show i - 4096 * x.toNat = j.toNat by omega]
                        · rw [if_neg hi]
                          show (if _ then _ else _) = _
                          by_cases hi2 : 4096 * x ≤ (i : Int) ∧ (i : Int) < 4096 * x + j
                          · rw [if_pos hi2, if_pos (by omega)]
                          · rw [if_neg hi2, if_neg (by omega)])) ?_
              refine hv_iinc (lv2 := [(3, .int (iI (j + 1))), (0, .ref (q)), (1, .int (iI (x))), (2, .int (iI (v)))]) E dX7_read_60 0 rfl rfl (by decide) rfl rfl ?_
              refine hv_goto E 34 dX7_read_63 (by decide) ?_
              refine hv_sub (lv2 := [(3, .int (iI (j + 1))), (0, .ref (q)), (1, .int (iI (x))), (2, .int (iI (v)))]) [0, 1, 2, 3] rfl ?_
              exact ih (j + 1) (by omega) (by omega) (by omega)
        refine hv_sub (lv2 := [(3, .int (iI (0))), (0, .ref (q)), (1, .int (iI (x))), (2, .int (iI (v)))]) [0, 1, 2, 3] rfl ?_
        exact LP 4097 0 (by omega) (by omega) (by omega)
      · refine hv_iconst E dX7_read_30 rfl ?_
        exact hv_iret E dX7_read_31 hr ⟨J, md2, td2, ag2, pl2, -1, rfl, rfl, Or.inr (Or.inr (Or.inl ⟨hX, hV, rfl, hno ca, hlo⟩)), fun _ _ => hu⟩
    · have c2 := of_decide_eq_false c2
      refine hv_bipush E dX7_read_19 (by decide +kernel) rfl ?_
      exact hv_iret E dX7_read_21 hr ⟨I, md, td, ag, pl, -3, rfl, mM_id hm, Or.inr (Or.inl ⟨by omega, by omega, rfl, fun _ _ _ _ => rfl⟩), fun _ h => absurd h (by omega)⟩
  · have c1 := of_decide_eq_false c1
    refine hv_bipush E dX7_read_7 (by decide +kernel) rfl ?_
    exact hv_iret E dX7_read_9 hr ⟨I, md, td, ag, pl, -2, rfl, mM_id hm, Or.inl ⟨by omega, rfl, fun _ _ _ _ => rfl⟩, fun h => absurd h (by omega)⟩
set_option maxHeartbeats 4000000 in
set_option maxRecDepth 100000 in
theorem c7_ask (l : Launch) (D : va_G) (K : Nat → ClassId) {w : hm_M} {q ia ta : Nat} {I T : Nat → Bool} {b md td : Int} {ag : Bool} {pl : Int} (v n : Int) (hv : iB v) (hnb : iB n) (hm : mAt K w q ia ta I T b md td ag pl) (hb0 : 0 ≤ b) (hb1 : b ≤ 8210)  : hm_Ci l D K yX7_ask cX7_ask 3 .int 8 [.ref (q), .int (iI (v)), .int (iI (n))] w 0 0 (fun r w2 => ∃ (J : Nat → Bool) (md2 td2 : Int) (ag2 : Bool) (pl2 z : Int), r = iI z ∧ w2 = mM K w q ia ta J T b md2 td2 ag2 pl2 ∧ (∀ i, i < 32768 → J i = I i) ∧ asP (tB T b) b v n z ∧ (0 ≤ v ∧ v < 3 → uq (tB T b) b v)) := by
  refine hm_enterI (by decide) (Nat.le_of_ble_eq_true rfl) ?_
  intro p e s m args below meth c E hr hnm
  show hm_V p l e (hm_rm 8 0 0) s m args below meth c D (hm_A w s.heap.size) 3 0 0 (MQ below (hm_Qi D w s.heap.size (fun r w2 => ∃ (J : Nat → Bool) (md2 td2 : Int) (ag2 : Bool) (pl2 z : Int), r = iI z ∧ w2 = mM K w q ia ta J T b md2 td2 ag2 pl2 ∧ (∀ i, i < 32768 → J i = I i) ∧ asP (tB T b) b v n z ∧ (0 ≤ v ∧ v < 3 → uq (tB T b) b v))) args s 0 0 (hm_A w s.heap.size)) w 0 [(0, .ref (q)), (1, .int (iI (v))), (2, .int (iI (n)))] []
  refine hv_iload_n E dX7_ask_0 rfl 1 rfl rfl ?_
  refine hv_iconst E dX7_ask_1 rfl ?_
  refine hv_iconst E dX7_ask_2 rfl ?_
  refine hv_callSI (na := 3) (As := [.int (iI (v)), .int (iI (0)), .int (iI (2))]) (st := []) E (c7_within l D K v 0 2 hv ⟨by omega, by omega⟩ ⟨by omega, by omega⟩) dX7_ask_3 gL_X7_17 gS_X7_within gC_X7_within gZ_X7 (by decide +kernel) rfl ⟨Nat.le_of_ble_eq_true rfl, Nat.le_of_ble_eq_true rfl⟩ (Nat.le_of_ble_eq_true rfl) ⟨Nat.zero_le _, Nat.zero_le _⟩ rfl rfl (fun r w2 hp => ?_)
  rw [hp.1, hp.2]
  show hm_V p l e (hm_rm 8 0 0) s m args below meth c D (hm_A w s.heap.size) 3 0 0 (MQ below (hm_Qi D w s.heap.size (fun r w2 => ∃ (J : Nat → Bool) (md2 td2 : Int) (ag2 : Bool) (pl2 z : Int), r = iI z ∧ w2 = mM K w q ia ta J T b md2 td2 ag2 pl2 ∧ (∀ i, i < 32768 → J i = I i) ∧ asP (tB T b) b v n z ∧ (0 ≤ v ∧ v < 3 → uq (tB T b) b v))) args s 0 0 (hm_A w s.heap.size)) w 6 [(0, .ref (q)), (1, .int (iI (v))), (2, .int (iI (n)))] [.int (bI (decide (0 ≤ v ∧ v ≤ 2)))]
  refine hv_if_neB E 12 dX7_ask_6 (by decide) rfl (fun c1 => ?_) (fun c1 => ?_)
  · have c1 := of_decide_eq_true c1
    refine hv_aload_n E dX7_ask_12 rfl 0 rfl rfl ?_
    refine hv_iload_n E dX7_ask_13 rfl 1 rfl rfl ?_
    have hV : 0 ≤ v ∧ v < 3 := by omega
    refine hv_callVI (na := 1) (As := [.int (iI (v))]) (st := []) E (c7_isCode l D K v (by omega) (by omega) hm hb0 hb1) dX7_ask_14 hm.1 (show vwCl[6]? = some (RX7, TX7, 7) from rfl) gL_X7_125 gV_X7_isCode gI_X7_isCode gC_X7_isCode gZ_X7 (by decide +kernel) rfl ⟨Nat.le_of_ble_eq_true rfl, Nat.le_of_ble_eq_true rfl⟩ (Nat.le_of_ble_eq_true rfl) ⟨Nat.zero_le _, Nat.zero_le _⟩ rfl rfl (fun r w2 hp => ?_)
    obtain ⟨J, md2, td2, ag2, pl2, h1, h2, h3, h4, h5⟩ := hp
    rw [h1, h2]
    show hm_V p l e (hm_rm 8 0 0) s m args below meth c D (hm_A w s.heap.size) 3 0 0 (MQ below (hm_Qi D w s.heap.size (fun r w2 => ∃ (J : Nat → Bool) (md2 td2 : Int) (ag2 : Bool) (pl2 z : Int), r = iI z ∧ w2 = mM K w q ia ta J T b md2 td2 ag2 pl2 ∧ (∀ i, i < 32768 → J i = I i) ∧ asP (tB T b) b v n z ∧ (0 ≤ v ∧ v < 3 → uq (tB T b) b v))) args s 0 0 (hm_A w s.heap.size)) (mM K w q ia ta J T b md2 td2 ag2 pl2) 17 [(0, .ref (q)), (1, .int (iI (v))), (2, .int (iI (n)))] [.int (bI (ag2))]
    have hM : mAt K (mM K w q ia ta J T b md2 td2 ag2 pl2) q ia ta J T b md2 td2 ag2 pl2 := mAt_mM hm.n1 hm.n2 hm.n3
    have hu : uq (tB T b) b v := fun S1 S2 k1 k2 u hu => (h5 S1 k1 u hu).symm.trans (h5 S2 k2 u hu)
    have hno : ag2 = false → ∀ S, ¬ isC (tB T b) b (code_ S v) := fun ha S hS => (by
      have h6 := h4.mpr (by rw [code_cg v (h5 S hS)]; exact hS)
      rw [ha] at h6; cases h6)
    have hlo : ∀ s u : Nat, s < 8 → u < 4096 → mA J s u = mA I s u := fun s u hs hu => h3 _ (by omega)
    refine hv_if_eqB E 30 dX7_ask_17 (by decide) rfl (fun ca => ?_) (fun ca => ?_)
    · refine hv_iconst E dX7_ask_30 rfl ?_
      exact hv_iret E dX7_ask_31 hr ⟨J, md2, td2, ag2, pl2, -1, rfl, rfl, h3, Or.inr (Or.inl ⟨hV, rfl, hno ca⟩), fun _ => hu⟩
    · have hc := h4.mp ca
      refine hv_aload_n E dX7_ask_20 rfl 0 rfl rfl ?_
      refine hv_bipush E dX7_ask_21 (by decide +kernel) rfl ?_
      refine hv_iload_n E dX7_ask_23 rfl 2 rfl rfl ?_
      refine hv_callVI (na := 2) (As := [.int (iI (8)), .int (iI (n))]) (st := []) E (c7_nth l D K 8 n hnb (by omega) (by omega) hM.i) dX7_ask_24 hM.1 (show vwCl[6]? = some (RX7, TX7, 7) from rfl) gL_X7_40 gV_X7_nth gI_X7_nth gC_X7_nth gZ_X7 (by decide +kernel) rfl ⟨Nat.le_of_ble_eq_true rfl, Nat.le_of_ble_eq_true rfl⟩ (Nat.le_of_ble_eq_true rfl) ⟨Nat.zero_le _, Nat.zero_le _⟩ rfl rfl (fun r w2 hp => ?_)
      obtain ⟨⟨z, p1, p2⟩, p3⟩ := hp
      rw [p2, p3]
      show hm_V p l e (hm_rm 8 0 0) s m args below meth c D (hm_A w s.heap.size) 3 0 0 (MQ below (hm_Qi D w s.heap.size (fun r w2 => ∃ (J : Nat → Bool) (md2 td2 : Int) (ag2 : Bool) (pl2 z : Int), r = iI z ∧ w2 = mM K w q ia ta J T b md2 td2 ag2 pl2 ∧ (∀ i, i < 32768 → J i = I i) ∧ asP (tB T b) b v n z ∧ (0 ≤ v ∧ v < 3 → uq (tB T b) b v))) args s 0 0 (hm_A w s.heap.size)) (mM K w q ia ta J T b md2 td2 ag2 pl2) 27 [(0, .ref (q)), (1, .int (iI (v))), (2, .int (iI (n)))] [.int (iI (z))]
      refine hv_goto E 31 dX7_ask_27 (by decide) ?_
      exact hv_iret E dX7_ask_31 hr ⟨J, md2, td2, ag2, pl2, z, rfl, rfl, h3, Or.inr (Or.inr ⟨hV, mS J 8, hc, p1⟩), fun _ => hu⟩
  · have c1 := of_decide_eq_false c1
    refine hv_bipush E dX7_ask_9 (by decide +kernel) rfl ?_
    exact hv_iret E dX7_ask_11 hr ⟨I, md, td, ag, pl, -3, rfl, mM_id hm, fun _ _ => rfl, Or.inl ⟨by omega, rfl⟩, fun h => absurd h (by omega)⟩
