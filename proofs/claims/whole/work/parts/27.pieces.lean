theorem bd0_skip {S : Nat → Bool} {a i j : Nat} (hij : i ≤ j) (hn : ∀ u, i ≤ u → u < j → S (a + u) = false) : bdP S 0 a j = bdP S 0 a i := skip_eq (S := fun u => S (a + u)) (bdP S 0 a) (fun j hj => by simp [bdP, hj]) hij hn
theorem bd2_skip {S : Nat → Bool} {a i j : Nat} (hij : i ≤ j) (hn : ∀ u, i ≤ u → u < j → bg S a u = false) : bdP S 2 a j = bdP S 2 a i := skip_eq (S := bg S a) (bdP S 2 a) (fun j hj => by simp [bdP, hj]) hij hn
theorem cta_skip {S : Nat → Bool} {a i j : Nat} (hij : i ≤ j) (hn : ∀ u, i ≤ u → u < j → S (a + u) = false) : ct S a j = ct S a i := skip_eq (S := fun u => S (a + u)) (ct S a) (fun j hj => by simp [ct, hj]) hij hn
theorem bd_mono (S : Nat → Bool) (F : Int) (a : Nat) {i j : Nat} (h : i ≤ j) : (bdP S F a i).length ≤ (bdP S F a j).length := by
  obtain ⟨d, rfl⟩ : ∃ d, j = i + d := ⟨j - i, by omega⟩
  induction d with
  | zero => exact Nat.le_refl _
  | succ d ih =>
    have := ih (by omega)
    rw [← Nat.add_assoc]
    simp only [bdP, List.length_append]
    omega
/-- the next number, while the piece from a on has one more -/
theorem next_pc {S : Nat → Bool} {a : Nat} {v z : Int} (h0 : (a : Int) ≤ v) (h1 : v ≤ a + 256) (ha : a + 256 ≤ 4096) (h : isNext S 4096 v z) (hm : ∃ u, v.toNat ≤ u ∧ u < a + 256 ∧ S u = true) : v ≤ z ∧ z < a + 256 ∧ S z.toNat = true ∧ ∀ u, v.toNat ≤ u → u < z.toNat → S u = false := by
  obtain ⟨u, u1, u2, u3⟩ := hm
  rcases h with ⟨x1, x2⟩ | ⟨x1, x2, x3, x4, x5⟩
  · exfalso
    rw [x2 u (by omega) (by omega)] at u3; cases u3
  · refine ⟨x1, ?_, x4, fun y y1 y2 => x5 y (by omega) (by omega)⟩
    rcases (show z ≤ (u : Int) ∨ (u : Int) < z by omega) with q | q
    · omega
    · rw [x5 u (by omega) q] at u3; cases u3
theorem more_pc {S : Nat → Bool} {a i : Nat} (hi : i ≤ 256) (h : ct S a i < ct S a 256) : ∃ u, a + i ≤ u ∧ u < a + 256 ∧ S u = true := by
  rcases Classical.em (∃ u, a + i ≤ u ∧ u < a + 256 ∧ S u = true) with q | q
  · exact q
  · exfalso
    have := cta_skip (S := S) (a := a) (i := i) (j := 256) hi (fun u h1 h2 => by
      cases e : S (a + u) with
      | false => rfl
      | true => exact absurd ⟨a + u, by omega, by omega, e⟩ q)
    omega
theorem rlen_eq {S : Nat → Bool} {a i j : Nat} (hj : j ≤ 256) (hij : i ≤ j) (h1 : ∀ u, i ≤ u → u < j → S (a + u) = true) (h2 : j = 256 ∨ S (a + j) = false) : rlen S a i (256 - i) = j - i := by
  obtain ⟨d, hd⟩ : ∃ d, d = j - i := ⟨_, rfl⟩
  induction d generalizing i with
  | zero =>
    have : i = j := by omega
    subst this
    rw [Nat.sub_self]
    rcases h2 with q | q
    · rw [q]; rfl
    · rcases Nat.eq_zero_or_pos (256 - i) with z | z
      · rw [z]; rfl
      · obtain ⟨m, hm⟩ : ∃ m, 256 - i = m + 1 := ⟨256 - i - 1, by omega⟩
        rw [hm]; simp [rlen, q]
  | succ d ih =>
    obtain ⟨m, hm⟩ : ∃ m, 256 - i = m + 1 := ⟨256 - i - 1, by omega⟩
    rw [hm]
    simp only [rlen]
    rw [h1 i (by omega) (by omega), if_pos rfl, show m = 256 - (i + 1) by omega, ih (by omega) (fun u z1 z2 => h1 u (by omega) z2) (by omega)]
    omega
/-- a run from i to j, behind e where the last one ended -/
theorem run_step {S : Nat → Bool} {a e i j : Nat} (he : e ≤ i) (hij : i < j) (hj : j ≤ 256) (hb : e = 0 ∨ S (a + e) = false) (h0 : ∀ u, e ≤ u → u < i → S (a + u) = false) (h1 : ∀ u, i ≤ u → u < j → S (a + u) = true) (h2 : j = 256 ∨ S (a + j) = false) : bdP S 2 a j = bdP S 2 a e ++ (nb (a + i) 8 ++ nb (j - i - 1) 8) ∧ ct (bg S a) 0 j = ct (bg S a) 0 e + 1 := by
  have bi : bg S a i = true := by
    unfold bg
    rw [h1 i (Nat.le_refl _) hij, Bool.true_and]
    by_cases z : i = 0
    · rw [decide_eq_true z]; rfl
    · rw [decide_eq_false z, Bool.false_or]
      rcases (show e < i ∨ e = i by omega) with q | q
      · rw [show a + i - 1 = a + (i - 1) by omega, h0 (i - 1) (by omega) (by omega)]; rfl
      · exfalso
        rcases hb with y | y
        · omega
        · rw [q, h1 i (Nat.le_refl _) hij] at y; cases y
  have n0 : ∀ u, e ≤ u → u < i → bg S a u = false := fun u z1 z2 => by unfold bg; rw [h0 u z1 z2]; rfl
  have n1 : ∀ u, i + 1 ≤ u → u < j → bg S a u = false := fun u z1 z2 => by
    unfold bg
    rw [show a + u - 1 = a + (u - 1) by omega, h1 (u - 1) (by omega) (by omega), decide_eq_false (show ¬ u = 0 by omega)]; simp
  have c1 : ct (bg S a) 0 i = ct (bg S a) 0 e := ct_skip he n0
  have c2 : ct (bg S a) 0 j = ct (bg S a) 0 (i + 1) := ct_skip hij n1
  refine ⟨?_, ?_⟩
  · rw [bd2_skip hij n1]
    simp only [bdP]
    rw [bd2_skip he n0, bi, rlen_eq hj (by omega) h1 h2]
    simp
  · rw [c2, ct_succ, Nat.zero_add, bi, c1]; rfl
set_option maxHeartbeats 4000000 in
set_option maxRecDepth 100000 in
theorem c3_tellList (l : Launch) (D : va_G) (K : Nat → ClassId) {w : hm_M} {qn wn t tw : Nat} {f tf : Nat → Int32} {L P : Int} (h : Int) (h0 : 0 ≤ h) (h1 : h < 16) (n : Int) (hn0 : n = pN (mem f) h) (hn1 : 1 ≤ n) (hL1 : L + 8 + ((bdP (mem f) 0 (256 * h.toNat) 256).length : Nat) ≤ 8210) (hn : nAt K w qn wn f) (ht : tAt K w t tw tf L P) (hL0 : 0 ≤ L)  : hm_Cv l D K yX3_tellList cX3_tellList 6 3 [.ref (qn), .int (iI (h * 256)), .int (iI (n)), .ref (t)] w 0 0 (fun w2 => ∃ g : Nat → Int32, w2 = tM K w t tw g (L + 8 + ((bdP (mem f) 0 (256 * h.toNat) 256).length : Nat)) P ∧ tX tf L g (nb (n - 1).toNat 8 ++ bdP (mem f) 0 (256 * h.toNat) 256)) := by
  refine hm_enterV (by decide) (Nat.le_of_ble_eq_true rfl) ?_
  intro p e s m args below meth c E hr hnm
  show hm_V p l e (hm_rm 3 0 0) s m args below meth c D (hm_A w s.heap.size) 6 0 0 (MQ below (hm_Qv D w s.heap.size (fun w2 => ∃ g : Nat → Int32, w2 = tM K w t tw g (L + 8 + ((bdP (mem f) 0 (256 * h.toNat) 256).length : Nat)) P ∧ tX tf L g (nb (n - 1).toNat 8 ++ bdP (mem f) 0 (256 * h.toNat) 256))) args s 0 0 (hm_A w s.heap.size)) w 0 [(0, .ref (qn)), (1, .int (iI (h * 256))), (2, .int (iI (n))), (3, .ref (t))] []
  have hpn := pN_b (mem f) h
  obtain ⟨A0, hA0⟩ : ∃ z, z = (256 * h.toNat) := ⟨_, rfl⟩
  obtain ⟨BD, hBD⟩ : ∃ z, z = bdP (mem f) 0 A0 256 := ⟨_, rfl⟩
  obtain ⟨CN, hCN⟩ : ∃ z, z = ct (mem f) A0 256 := ⟨_, rfl⟩
  have hnc : n = (CN : Int) := by rw [hn0, hCN, hA0]; rfl
  rw [← hA0, ← hBD] at hL1 ⊢
  show hm_V p l e (hm_rm 3 0 0) s m args below meth c D (hm_A w s.heap.size) 6 0 0 (MQ below (hm_Qv D w s.heap.size (fun w2 => ∃ g : Nat → Int32, w2 = tM K w t tw g (L + 8 + ((BD).length : Nat)) P ∧ tX tf L g (nb (n - 1).toNat 8 ++ BD))) args s 0 0 (hm_A w s.heap.size)) w 0 [(0, .ref (qn)), (1, .int (iI (h * 256))), (2, .int (iI (n))), (3, .ref (t))] []
  refine hv_aload_n E dX3_tellList_0 rfl 3 rfl rfl ?_
  refine hv_iload_n E dX3_tellList_1 rfl 2 rfl rfl ?_
  refine hv_iconst E dX3_tellList_2 rfl ?_
  refine hv_isub E dX3_tellList_3 rfl ?_
  refine hv_bipush E dX3_tellList_4 (by decide +kernel) rfl ?_
  refine hv_callVV (na := 2) (As := [.int (iI (n - 1)), .int (iI (8))]) (st := []) E (c4_append l D K (iI (n - 1)) 8 (by omega) (by omega) (by omega) ht (by omega) (by omega)) dX3_tellList_6 ht.1 (show vwCl[3]? = some (RX4, TX4, 3) from rfl) gL_X3_18 gV_X4_append gI_X4_append gC_X4_append gZ_X4 (by decide +kernel) rfl ⟨Nat.le_of_ble_eq_true rfl, Nat.le_of_ble_eq_true rfl⟩ (Nat.le_of_ble_eq_true rfl) ⟨Nat.zero_le _, Nat.zero_le _⟩ rfl rfl (fun w2 hp => ?_)
  obtain ⟨g1, e2, hf2, hf3⟩ := hp
  rw [e2]
  show hm_V p l e (hm_rm 3 0 0) s m args below meth c D (hm_A w s.heap.size) 6 0 0 (MQ below (hm_Qv D w s.heap.size (fun w2 => ∃ g : Nat → Int32, w2 = tM K w t tw g (L + 8 + ((BD).length : Nat)) P ∧ tX tf L g (nb (n - 1).toNat 8 ++ BD))) args s 0 0 (hm_A w s.heap.size)) (tM K w t tw g1 (L + 8) P) 9 [(0, .ref (qn)), (1, .int (iI (h * 256))), (2, .int (iI (n))), (3, .ref (t))] []
  have hq := tX.nb (f := tf) (g := g1) (z := n - 1) (n := 8) (by omega) (by omega) (by omega) (by omega) (by omega) hf2 hf3
  have hq1 : tX tf L g1 (nb (n - 1).toNat 8 ++ bdP (mem f) 0 A0 0) := by simpa [bdP] using hq
  refine hv_iload_n E dX3_tellList_9 rfl 1 rfl rfl ?_
  refine hv_iconst E dX3_tellList_10 rfl ?_
  refine hv_isub E dX3_tellList_11 rfl ?_
  refine hv_istore (lv2 := [(4, .int (iI ((h * 256) - 1))), (0, .ref (qn)), (1, .int (iI (h * 256))), (2, .int (iI (n))), (3, .ref (t))]) E dX3_tellList_12 (by decide) rfl rfl ?_
  refine hv_iconst E dX3_tellList_14 rfl ?_
  refine hv_istore (lv2 := [(5, .int (iI (0))), (4, .int (iI ((h * 256) - 1))), (0, .ref (qn)), (1, .int (iI (h * 256))), (2, .int (iI (n))), (3, .ref (t))]) E dX3_tellList_15 (by decide) rfl rfl ?_
  refine hv_mem (show tM K w t tw g1 (L + 8) P = tM K w t tw g1 (L + 8 + ((bdP (mem f) 0 A0 (h * 256 - 1 + 1 - A0).toNat).length : Nat)) P from (by rw [show (h * 256 - 1 + 1 - (A0 : Int)).toNat = 0 by omega]; simp [bdP])) ?_
  have LP : ∀ (k : Nat) (j v : Int) (g : Nat → Int32), (n - j < (k : Int)) → (0 ≤ j) → (j ≤ n) → ((A0 : Int) - 1 ≤ v) → (v < A0 + 256) → (j = (ct (mem f) A0 (v + 1 - A0).toNat : Nat)) → (tX tf L g (nb (n - 1).toNat 8 ++ bdP (mem f) 0 A0 (v + 1 - A0).toNat)) → hm_V p l e (hm_rm 3 0 0) s m args below meth c D (hm_A w s.heap.size) 6 0 0 (MQ below (hm_Qv D w s.heap.size (fun w2 => ∃ g : Nat → Int32, w2 = tM K w t tw g (L + 8 + ((BD).length : Nat)) P ∧ tX tf L g (nb (n - 1).toNat 8 ++ BD))) args s 0 0 (hm_A w s.heap.size)) (tM K w t tw g (L + 8 + ((bdP (mem f) 0 A0 (v + 1 - A0).toNat).length : Nat)) P) 17 [(5, .int (iI (j))), (4, .int (iI (v))), (0, .ref (qn)), (1, .int (iI (h * 256))), (2, .int (iI (n))), (3, .ref (t))] [] := by
    intro k
    induction k with
    | zero =>
      intro j v g hk g0 g1_ v0 v1 hj hx
      exact absurd hk (by omega)
    | succ k ih =>
      intro j v g hk g0 g1_ v0 v1 hj hx
      have hT : tAt K (tM K w t tw g (L + 8 + ((bdP (mem f) 0 A0 (v + 1 - A0).toNat).length : Nat)) P) t tw g (L + 8 + ((bdP (mem f) 0 A0 (v + 1 - A0).toNat).length : Nat)) P := tAt_tM ht.ne
      have hN : nAt K (tM K w t tw g (L + 8 + ((bdP (mem f) 0 A0 (v + 1 - A0).toNat).length : Nat)) P) qn wn f := hn.tm ht
      have hmb := bd_mono (mem f) 0 A0 (show (v + 1 - A0).toNat ≤ 256 by omega)
      rw [← hBD] at hmb
      refine hv_iload E dX3_tellList_17 0 rfl rfl ?_
      refine hv_iload_n E dX3_tellList_19 rfl 4 rfl rfl ?_
      refine hv_icmp_ge E 47 dX3_tellList_20 (by decide) ⟨by omega, by omega⟩ ⟨by omega, by omega⟩ rfl (fun c1 => ?_) (fun c1 => ?_)
      · have es : BD = bdP (mem f) 0 A0 (v + 1 - A0).toNat := by
          rw [hBD]
          refine bd0_skip (by omega) (fun u h1 h2 => ?_)
          cases e1 : mem f (A0 + u) with
          | false => rfl
          | true =>
            have z1 := ct_step (S := mem f) (a := A0) h2 e1
            have z2 := ct_mono (mem f) A0 h1
            rw [← hCN] at z1
            omega
        exact hv_vret E dX3_tellList_47 hr ⟨g, by rw [es], by rw [es]; exact hx⟩
      · refine hv_aload_n E dX3_tellList_23 rfl 2 rfl rfl ?_
        refine hv_iload E dX3_tellList_24 1 rfl rfl ?_
        refine hv_iconst E dX3_tellList_26 rfl ?_
        refine hv_iadd E dX3_tellList_27 rfl ?_
        refine hv_callVI (na := 1) (As := [.int (iI (v + 1))]) (st := []) E (c2_leastFrom l D K (v + 1) (by omega) (by omega) hN) dX3_tellList_28 hN.1 (show vwCl[1]? = some (RX2, TX2, 1) from rfl) gL_X3_67 gV_X2_leastFrom gI_X2_leastFrom gC_X2_leastFrom gZ_X2 (by decide +kernel) rfl ⟨Nat.le_of_ble_eq_true rfl, Nat.le_of_ble_eq_true rfl⟩ (Nat.le_of_ble_eq_true rfl) ⟨Nat.zero_le _, Nat.zero_le _⟩ rfl rfl (fun r w2 hp => ?_)
        obtain ⟨⟨z, p1, p2⟩, p3⟩ := hp
        rw [p2, p3]
        show hm_V p l e (hm_rm 3 0 0) s m args below meth c D (hm_A w s.heap.size) 6 0 0 (MQ below (hm_Qv D w s.heap.size (fun w2 => ∃ g : Nat → Int32, w2 = tM K w t tw g (L + 8 + ((BD).length : Nat)) P ∧ tX tf L g (nb (n - 1).toNat 8 ++ BD))) args s 0 0 (hm_A w s.heap.size)) (tM K w t tw g (L + 8 + ((bdP (mem f) 0 A0 (v + 1 - A0).toNat).length : Nat)) P) 31 [(5, .int (iI (j))), (4, .int (iI (v))), (0, .ref (qn)), (1, .int (iI (h * 256))), (2, .int (iI (n))), (3, .ref (t))] [.int (iI (z))]
        obtain ⟨z1, z3, z4, z5⟩ := next_pc (S := mem f) (a := A0) (v := v + 1) (by omega) (by omega) (by omega) p1 (by
          obtain ⟨u, u1, u2, u3⟩ := more_pc (S := mem f) (a := A0) (i := (v + 1 - A0).toNat) (by omega) (by rw [← hCN]; omega)
          exact ⟨u, by omega, u2, u3⟩)
        have ei : (z + 1 - A0).toNat = (z - A0).toNat + 1 := by omega
        have ez : A0 + (z - A0).toNat = z.toNat := by omega
        have es : bdP (mem f) 0 A0 (z + 1 - A0).toNat = bdP (mem f) 0 A0 (v + 1 - A0).toNat ++ nb z.toNat 8 := by
          rw [ei]
          simp only [bdP]
          rw [ez, z4, bd0_skip (i := (v + 1 - A0).toNat) (by omega) (fun u h1 h2 => z5 (A0 + u) (by omega) (by omega))]
          rfl
        have ec : ct (mem f) A0 (z + 1 - A0).toNat = ct (mem f) A0 (v + 1 - A0).toNat + 1 := by
          rw [ei, ct_succ, ez, z4, cta_skip (i := (v + 1 - A0).toNat) (by omega) (fun u h1 h2 => z5 (A0 + u) (by omega) (by omega))]
          rfl
        have hmz := bd_mono (mem f) 0 A0 (show (z + 1 - A0).toNat ≤ 256 by omega)
        rw [← hBD] at hmz
        have hlz : (bdP (mem f) 0 A0 (z + 1 - A0).toNat).length = (bdP (mem f) 0 A0 (v + 1 - A0).toNat).length + 8 := by rw [es, List.length_append, nb_length]
        refine hv_istore (lv2 := [(4, .int (iI (z))), (5, .int (iI (j))), (0, .ref (qn)), (1, .int (iI (h * 256))), (2, .int (iI (n))), (3, .ref (t))]) E dX3_tellList_31 (by decide) rfl rfl ?_
        refine hv_aload_n E dX3_tellList_33 rfl 5 rfl rfl ?_
        refine hv_iload E dX3_tellList_34 0 rfl rfl ?_
        refine hv_bipush E dX3_tellList_36 (by decide +kernel) rfl ?_
        refine hv_callVV (na := 2) (As := [.int (iI (z)), .int (iI (8))]) (st := []) E (c4_append l D K (iI (z)) (8) (by omega) (by omega) (by omega) hT (by omega) (by omega)) dX3_tellList_38 hT.1 (show vwCl[3]? = some (RX4, TX4, 3) from rfl) gL_X3_18 gV_X4_append gI_X4_append gC_X4_append gZ_X4 (by decide +kernel) rfl ⟨Nat.le_of_ble_eq_true rfl, Nat.le_of_ble_eq_true rfl⟩ (Nat.le_of_ble_eq_true rfl) ⟨Nat.zero_le _, Nat.zero_le _⟩ rfl rfl (fun w2 hp => ?_)
        obtain ⟨g2, e2, hf2, hf3⟩ := hp
        rw [tM_tM ht.ne] at e2
        rw [e2]
        rw [show (L + 8 + ((bdP (mem f) 0 A0 (v + 1 - A0).toNat).length : Nat)) + 8 = L + 8 + ((bdP (mem f) 0 A0 (z + 1 - A0).toNat).length : Nat) from (by omega)]
        show hm_V p l e (hm_rm 3 0 0) s m args below meth c D (hm_A w s.heap.size) 6 0 0 (MQ below (hm_Qv D w s.heap.size (fun w2 => ∃ g : Nat → Int32, w2 = tM K w t tw g (L + 8 + ((BD).length : Nat)) P ∧ tX tf L g (nb (n - 1).toNat 8 ++ BD))) args s 0 0 (hm_A w s.heap.size)) (tM K w t tw g2 (L + 8 + ((bdP (mem f) 0 A0 (z + 1 - A0).toNat).length : Nat)) P) 41 [(4, .int (iI (z))), (5, .int (iI (j))), (0, .ref (qn)), (1, .int (iI (h * 256))), (2, .int (iI (n))), (3, .ref (t))] []
        have hq := tX.nb (f := g) (g := g2) (z := z) (n := 8) (by omega) (by omega) (by omega) (by omega) (by omega) hf2 hf3
        refine hv_iinc (lv2 := [(5, .int (iI (j + 1))), (4, .int (iI (z))), (0, .ref (qn)), (1, .int (iI (h * 256))), (2, .int (iI (n))), (3, .ref (t))]) E dX3_tellList_41 1 rfl rfl (by decide) rfl rfl ?_
        refine hv_goto E 17 dX3_tellList_44 (by decide) ?_
        refine hv_sub (lv2 := [(5, .int (iI (j + 1))), (4, .int (iI (z))), (0, .ref (qn)), (1, .int (iI (h * 256))), (2, .int (iI (n))), (3, .ref (t))]) [0, 1, 2, 3, 4, 5] rfl ?_
        exact ih (j + 1) z g2 (by omega) (by omega) (by omega) (by omega) (by omega) (by rw [ec, hj]; rfl) (by
              rw [es, ← List.append_assoc]
              refine hx.app hL0 ?_
              rw [List.length_append, nb_length, show L + ((8 + (bdP (mem f) 0 A0 (v + 1 - A0).toNat).length : Nat) : Int) = L + 8 + ((bdP (mem f) 0 A0 (v + 1 - A0).toNat).length : Nat) by omega]
              exact hq)
  refine hv_sub (lv2 := [(5, .int (iI (0))), (4, .int (iI ((h * 256) - 1))), (0, .ref (qn)), (1, .int (iI (h * 256))), (2, .int (iI (n))), (3, .ref (t))]) [0, 1, 2, 3, 4, 5] rfl ?_
  exact LP (CN + 1) 0 (h * 256 - 1) g1 (by omega) (by omega) (by omega) (by omega) (by omega) (by rw [show (h * 256 - 1 + 1 - (A0 : Int)).toNat = 0 by omega]; rfl) (by rw [show (h * 256 - 1 + 1 - (A0 : Int)).toNat = 0 by omega]; exact hq1)
set_option maxHeartbeats 4000000 in
set_option maxRecDepth 100000 in
theorem c3_tellBits (l : Launch) (D : va_G) (K : Nat → ClassId) {w : hm_M} {qn wn t tw : Nat} {f tf : Nat → Int32} {L P : Int} (h : Int) (h0 : 0 ≤ h) (h1 : h < 16) (hL1 : L + 256 ≤ 8210) (hn : nAt K w qn wn f) (ht : tAt K w t tw tf L P) (hL0 : 0 ≤ L)  : hm_Cv l D K yX3_tellBits cX3_tellBits 4 3 [.ref (qn), .int (iI (h * 256)), .ref (t)] w 0 0 (fun w2 => ∃ g : Nat → Int32, w2 = tM K w t tw g (L + 256) P ∧ tX tf L g (bdP (mem f) 1 (256 * h.toNat) 256)) := by
  refine hm_enterV (by decide) (Nat.le_of_ble_eq_true rfl) ?_
  intro p e s m args below meth c E hr hnm
  show hm_V p l e (hm_rm 3 0 0) s m args below meth c D (hm_A w s.heap.size) 4 0 0 (MQ below (hm_Qv D w s.heap.size (fun w2 => ∃ g : Nat → Int32, w2 = tM K w t tw g (L + 256) P ∧ tX tf L g (bdP (mem f) 1 (256 * h.toNat) 256))) args s 0 0 (hm_A w s.heap.size)) w 0 [(0, .ref (qn)), (1, .int (iI (h * 256))), (2, .ref (t))] []
  obtain ⟨A0, hA0⟩ : ∃ z, z = (256 * h.toNat) := ⟨_, rfl⟩
  rw [← hA0]
  show hm_V p l e (hm_rm 3 0 0) s m args below meth c D (hm_A w s.heap.size) 4 0 0 (MQ below (hm_Qv D w s.heap.size (fun w2 => ∃ g : Nat → Int32, w2 = tM K w t tw g (L + 256) P ∧ tX tf L g (bdP (mem f) 1 A0 256))) args s 0 0 (hm_A w s.heap.size)) w 0 [(0, .ref (qn)), (1, .int (iI (h * 256))), (2, .ref (t))] []
  refine hv_iconst E dX3_tellBits_0 rfl ?_
  refine hv_istore_n (lv2 := [(3, .int (iI (0))), (0, .ref (qn)), (1, .int (iI (h * 256))), (2, .ref (t))]) E dX3_tellBits_1 rfl (by decide) rfl rfl ?_
  refine hv_mem (show w = tM K w t tw tf (L + 0) P from (by rw [Int.add_zero]; exact tM_id ht)) ?_
  have LP : ∀ (k : Nat) (j : Int) (g : Nat → Int32), (256 - j < (k : Int)) → (0 ≤ j) → (j ≤ 256) → (tX tf L g (bdP (mem f) 1 A0 j.toNat)) → hm_V p l e (hm_rm 3 0 0) s m args below meth c D (hm_A w s.heap.size) 4 0 0 (MQ below (hm_Qv D w s.heap.size (fun w2 => ∃ g : Nat → Int32, w2 = tM K w t tw g (L + 256) P ∧ tX tf L g (bdP (mem f) 1 A0 256))) args s 0 0 (hm_A w s.heap.size)) (tM K w t tw g (L + j) P) 2 [(3, .int (iI (j))), (0, .ref (qn)), (1, .int (iI (h * 256))), (2, .ref (t))] [] := by
    intro k
    induction k with
    | zero =>
      intro j g hk g0 g1 hx
      exact absurd hk (by omega)
    | succ k ih =>
      intro j g hk g0 g1 hx
      have hT : tAt K (tM K w t tw g (L + j) P) t tw g (L + j) P := tAt_tM ht.ne
      have hN : nAt K (tM K w t tw g (L + j) P) qn wn f := hn.tm ht
      refine hv_iload_n E dX3_tellBits_2 rfl 0 rfl rfl ?_
      refine hv_sipush E dX3_tellBits_3 (by decide +kernel) rfl ?_
      refine hv_icmp_ge E 35 dX3_tellBits_6 (by decide) ⟨by omega, by omega⟩ ⟨by omega, by omega⟩ rfl (fun c1 => ?_) (fun c1 => ?_)
      · exact hv_vret E dX3_tellBits_35 hr ⟨g, by rw [show j = 256 by omega], by rw [show j.toNat = 256 by omega] at hx; exact hx⟩
      · refine hv_aload_n E dX3_tellBits_9 rfl 3 rfl rfl ?_
        refine hv_aload_n E dX3_tellBits_10 rfl 1 rfl rfl ?_
        refine hv_iload_n E dX3_tellBits_11 rfl 2 rfl rfl ?_
        refine hv_iload_n E dX3_tellBits_12 rfl 0 rfl rfl ?_
        refine hv_iadd E dX3_tellBits_13 rfl ?_
        refine hv_callVI (na := 1) (As := [.int (iI ((h * 256) + j))]) (st := [.ref (t)]) E (c2_holds l D K (h * 256 + j) ⟨by omega, by omega⟩ hN) dX3_tellBits_14 hN.1 (show vwCl[1]? = some (RX2, TX2, 1) from rfl) gL_X3_70 gV_X2_holds gI_X2_holds gC_X2_holds gZ_X2 (by decide +kernel) rfl ⟨Nat.le_of_ble_eq_true rfl, Nat.le_of_ble_eq_true rfl⟩ (Nat.le_of_ble_eq_true rfl) ⟨Nat.zero_le _, Nat.zero_le _⟩ rfl rfl (fun r w2 hp => ?_)
        rw [hp.1, hp.2, decide_eq_true (show 0 ≤ h * 256 + j ∧ h * 256 + j < 4096 by omega), Bool.true_and, show (h * 256 + j).toNat = A0 + j.toNat by omega]
        show hm_V p l e (hm_rm 3 0 0) s m args below meth c D (hm_A w s.heap.size) 4 0 0 (MQ below (hm_Qv D w s.heap.size (fun w2 => ∃ g : Nat → Int32, w2 = tM K w t tw g (L + 256) P ∧ tX tf L g (bdP (mem f) 1 A0 256))) args s 0 0 (hm_A w s.heap.size)) (tM K w t tw g (L + j) P) 17 [(3, .int (iI (j))), (0, .ref (qn)), (1, .int (iI (h * 256))), (2, .ref (t))] [.int (bI (mem f (A0 + j.toNat))), .ref (t)]
        have hbl : (bdP (mem f) 1 A0 j.toNat).length = j.toNat := by rw [bdP_length _ _ _ (by omega), if_pos rfl]
        refine hv_if_eqB E 24 dX3_tellBits_17 (by decide) rfl (fun c2 => ?_) (fun c2 => ?_)
        · refine hv_iconst E dX3_tellBits_24 rfl ?_
          refine hv_iconst E dX3_tellBits_25 rfl ?_
          refine hv_callVV (na := 2) (As := [.int (iI (0)), .int (iI (1))]) (st := []) E (c4_append l D K (iI (0)) (1) (by omega) (by omega) (by omega) hT (by omega) (by omega)) dX3_tellBits_26 hT.1 (show vwCl[3]? = some (RX4, TX4, 3) from rfl) gL_X3_18 gV_X4_append gI_X4_append gC_X4_append gZ_X4 (by decide +kernel) rfl ⟨Nat.le_of_ble_eq_true rfl, Nat.le_of_ble_eq_true rfl⟩ (Nat.le_of_ble_eq_true rfl) ⟨Nat.zero_le _, Nat.zero_le _⟩ rfl rfl (fun w2 hp => ?_)
          obtain ⟨g2, e2, hf2, hf3⟩ := hp
          rw [tM_tM ht.ne] at e2
          rw [e2]
          rw [show (L + j) + 1 = L + (j + 1) from (by omega)]
          show hm_V p l e (hm_rm 3 0 0) s m args below meth c D (hm_A w s.heap.size) 4 0 0 (MQ below (hm_Qv D w s.heap.size (fun w2 => ∃ g : Nat → Int32, w2 = tM K w t tw g (L + 256) P ∧ tX tf L g (bdP (mem f) 1 A0 256))) args s 0 0 (hm_A w s.heap.size)) (tM K w t tw g2 (L + (j + 1)) P) 29 [(3, .int (iI (j))), (0, .ref (qn)), (1, .int (iI (h * 256))), (2, .ref (t))] []
          have hq := tX.nb (f := g) (g := g2) (z := 0) (n := 1) (by omega) (by omega) (by omega) (by omega) (by omega) hf2 hf3
          refine hv_iinc (lv2 := [(3, .int (iI (j + 1))), (0, .ref (qn)), (1, .int (iI (h * 256))), (2, .ref (t))]) E dX3_tellBits_29 0 rfl rfl (by decide) rfl rfl ?_
          refine hv_goto E 2 dX3_tellBits_32 (by decide) ?_
          refine hv_sub (lv2 := [(3, .int (iI (j + 1))), (0, .ref (qn)), (1, .int (iI (h * 256))), (2, .ref (t))]) [0, 1, 2, 3] rfl ?_
          exact ih (j + 1) g2 (by omega) (by omega) (by omega) (by
                rw [show (j + 1).toNat = j.toNat + 1 by omega]
                simp only [bdP]
                rw [if_pos trivial, c2]
                refine hx.app hL0 ?_
                rw [hbl, show L + ((j.toNat : Nat) : Int) = L + j by omega]
                rw [nb_0] at hq
                exact hq)
        · refine hv_iconst E dX3_tellBits_20 rfl ?_
          refine hv_goto E 25 dX3_tellBits_21 (by decide) ?_
          refine hv_iconst E dX3_tellBits_25 rfl ?_
          refine hv_callVV (na := 2) (As := [.int (iI (1)), .int (iI (1))]) (st := []) E (c4_append l D K (iI (1)) (1) (by omega) (by omega) (by omega) hT (by omega) (by omega)) dX3_tellBits_26 hT.1 (show vwCl[3]? = some (RX4, TX4, 3) from rfl) gL_X3_18 gV_X4_append gI_X4_append gC_X4_append gZ_X4 (by decide +kernel) rfl ⟨Nat.le_of_ble_eq_true rfl, Nat.le_of_ble_eq_true rfl⟩ (Nat.le_of_ble_eq_true rfl) ⟨Nat.zero_le _, Nat.zero_le _⟩ rfl rfl (fun w2 hp => ?_)
          obtain ⟨g2, e2, hf2, hf3⟩ := hp
          rw [tM_tM ht.ne] at e2
          rw [e2]
          rw [show (L + j) + 1 = L + (j + 1) from (by omega)]
          show hm_V p l e (hm_rm 3 0 0) s m args below meth c D (hm_A w s.heap.size) 4 0 0 (MQ below (hm_Qv D w s.heap.size (fun w2 => ∃ g : Nat → Int32, w2 = tM K w t tw g (L + 256) P ∧ tX tf L g (bdP (mem f) 1 A0 256))) args s 0 0 (hm_A w s.heap.size)) (tM K w t tw g2 (L + (j + 1)) P) 29 [(3, .int (iI (j))), (0, .ref (qn)), (1, .int (iI (h * 256))), (2, .ref (t))] []
          have hq := tX.nb (f := g) (g := g2) (z := 1) (n := 1) (by omega) (by omega) (by omega) (by omega) (by omega) hf2 hf3
          refine hv_iinc (lv2 := [(3, .int (iI (j + 1))), (0, .ref (qn)), (1, .int (iI (h * 256))), (2, .ref (t))]) E dX3_tellBits_29 0 rfl rfl (by decide) rfl rfl ?_
          refine hv_goto E 2 dX3_tellBits_32 (by decide) ?_
          refine hv_sub (lv2 := [(3, .int (iI (j + 1))), (0, .ref (qn)), (1, .int (iI (h * 256))), (2, .ref (t))]) [0, 1, 2, 3] rfl ?_
          exact ih (j + 1) g2 (by omega) (by omega) (by omega) (by
                rw [show (j + 1).toNat = j.toNat + 1 by omega]
                simp only [bdP]
                rw [if_pos trivial, c2]
                refine hx.app hL0 ?_
                rw [hbl, show L + ((j.toNat : Nat) : Int) = L + j by omega]
                rw [nb_1] at hq
                exact hq)
  refine hv_sub (lv2 := [(3, .int (iI (0))), (0, .ref (qn)), (1, .int (iI (h * 256))), (2, .ref (t))]) [0, 1, 2, 3] rfl ?_
  exact LP 257 0 tf (by omega) (by omega) (by omega) tX.nil
set_option maxHeartbeats 4000000 in
set_option maxRecDepth 100000 in
theorem c3_tellRuns (l : Launch) (D : va_G) (K : Nat → ClassId) {w : hm_M} {qn wn t tw : Nat} {f tf : Nat → Int32} {L P : Int} (h : Int) (h0 : 0 ≤ h) (h1 : h < 16) (n : Int) (hn0 : n = pR (mem f) h) (hn1 : 1 ≤ n) (hL1 : L + 8 + ((bdP (mem f) 2 (256 * h.toNat) 256).length : Nat) ≤ 8210) (hn : nAt K w qn wn f) (ht : tAt K w t tw tf L P) (hL0 : 0 ≤ L)  : hm_Cv l D K yX3_tellRuns cX3_tellRuns 8 3 [.ref (qn), .int (iI (h * 256)), .int (iI (n)), .ref (t)] w 0 0 (fun w2 => ∃ g : Nat → Int32, w2 = tM K w t tw g (L + 8 + ((bdP (mem f) 2 (256 * h.toNat) 256).length : Nat)) P ∧ tX tf L g (nb (n - 1).toNat 8 ++ bdP (mem f) 2 (256 * h.toNat) 256)) := by
  refine hm_enterV (by decide) (Nat.le_of_ble_eq_true rfl) ?_
  intro p e s m args below meth c E hr hnm
  show hm_V p l e (hm_rm 3 0 0) s m args below meth c D (hm_A w s.heap.size) 8 0 0 (MQ below (hm_Qv D w s.heap.size (fun w2 => ∃ g : Nat → Int32, w2 = tM K w t tw g (L + 8 + ((bdP (mem f) 2 (256 * h.toNat) 256).length : Nat)) P ∧ tX tf L g (nb (n - 1).toNat 8 ++ bdP (mem f) 2 (256 * h.toNat) 256))) args s 0 0 (hm_A w s.heap.size)) w 0 [(0, .ref (qn)), (1, .int (iI (h * 256))), (2, .int (iI (n))), (3, .ref (t))] []
  have hpn := pR_b (mem f) h
  obtain ⟨A0, hA0⟩ : ∃ z, z = (256 * h.toNat) := ⟨_, rfl⟩
  obtain ⟨BD, hBD⟩ : ∃ z, z = bdP (mem f) 2 A0 256 := ⟨_, rfl⟩
  obtain ⟨CN, hCN⟩ : ∃ z, z = ct (bg (mem f) A0) 0 256 := ⟨_, rfl⟩
  have hnc : n = (CN : Int) := by rw [hn0, hCN, hA0]; rfl
  rw [← hA0, ← hBD] at hL1 ⊢
  show hm_V p l e (hm_rm 3 0 0) s m args below meth c D (hm_A w s.heap.size) 8 0 0 (MQ below (hm_Qv D w s.heap.size (fun w2 => ∃ g : Nat → Int32, w2 = tM K w t tw g (L + 8 + ((BD).length : Nat)) P ∧ tX tf L g (nb (n - 1).toNat 8 ++ BD))) args s 0 0 (hm_A w s.heap.size)) w 0 [(0, .ref (qn)), (1, .int (iI (h * 256))), (2, .int (iI (n))), (3, .ref (t))] []
  refine hv_aload_n E dX3_tellRuns_0 rfl 3 rfl rfl ?_
  refine hv_iload_n E dX3_tellRuns_1 rfl 2 rfl rfl ?_
  refine hv_iconst E dX3_tellRuns_2 rfl ?_
  refine hv_isub E dX3_tellRuns_3 rfl ?_
  refine hv_bipush E dX3_tellRuns_4 (by decide +kernel) rfl ?_
  refine hv_callVV (na := 2) (As := [.int (iI (n - 1)), .int (iI (8))]) (st := []) E (c4_append l D K (iI (n - 1)) 8 (by omega) (by omega) (by omega) ht (by omega) (by omega)) dX3_tellRuns_6 ht.1 (show vwCl[3]? = some (RX4, TX4, 3) from rfl) gL_X3_18 gV_X4_append gI_X4_append gC_X4_append gZ_X4 (by decide +kernel) rfl ⟨Nat.le_of_ble_eq_true rfl, Nat.le_of_ble_eq_true rfl⟩ (Nat.le_of_ble_eq_true rfl) ⟨Nat.zero_le _, Nat.zero_le _⟩ rfl rfl (fun w2 hp => ?_)
  obtain ⟨g1, e2, hf2, hf3⟩ := hp
  rw [e2]
  show hm_V p l e (hm_rm 3 0 0) s m args below meth c D (hm_A w s.heap.size) 8 0 0 (MQ below (hm_Qv D w s.heap.size (fun w2 => ∃ g : Nat → Int32, w2 = tM K w t tw g (L + 8 + ((BD).length : Nat)) P ∧ tX tf L g (nb (n - 1).toNat 8 ++ BD))) args s 0 0 (hm_A w s.heap.size)) (tM K w t tw g1 (L + 8) P) 9 [(0, .ref (qn)), (1, .int (iI (h * 256))), (2, .int (iI (n))), (3, .ref (t))] []
  have hq := tX.nb (f := tf) (g := g1) (z := n - 1) (n := 8) (by omega) (by omega) (by omega) (by omega) (by omega) hf2 hf3
  have hq1 : tX tf L g1 (nb (n - 1).toNat 8 ++ bdP (mem f) 2 A0 0) := by simpa [bdP] using hq
  refine hv_iload_n E dX3_tellRuns_9 rfl 1 rfl rfl ?_
  refine hv_istore (lv2 := [(4, .int (iI (h * 256))), (0, .ref (qn)), (1, .int (iI (h * 256))), (2, .int (iI (n))), (3, .ref (t))]) E dX3_tellRuns_10 (by decide) rfl rfl ?_
  refine hv_iconst E dX3_tellRuns_12 rfl ?_
  refine hv_istore (lv2 := [(5, .int (iI (0))), (4, .int (iI (h * 256))), (0, .ref (qn)), (1, .int (iI (h * 256))), (2, .int (iI (n))), (3, .ref (t))]) E dX3_tellRuns_13 (by decide) rfl rfl ?_
  refine hv_mem (show tM K w t tw g1 (L + 8) P = tM K w t tw g1 (L + 8 + ((bdP (mem f) 2 A0 0).length : Nat)) P from (by simp [bdP])) ?_
  have LP : ∀ (k : Nat) (j : Int) (e0 : Nat) (g : Nat → Int32), (n - j < (k : Int)) → (0 ≤ j) → (j ≤ n) → (e0 ≤ 256) → (e0 = 0 ∨ e0 = 256 ∨ mem f (A0 + e0) = false) → (j = (ct (bg (mem f) A0) 0 e0 : Nat)) → (tX tf L g (nb (n - 1).toNat 8 ++ bdP (mem f) 2 A0 e0)) → hm_V p l e (hm_rm 3 0 0) s m args below meth c D (hm_A w s.heap.size) 8 0 0 (MQ below (hm_Qv D w s.heap.size (fun w2 => ∃ g : Nat → Int32, w2 = tM K w t tw g (L + 8 + ((BD).length : Nat)) P ∧ tX tf L g (nb (n - 1).toNat 8 ++ BD))) args s 0 0 (hm_A w s.heap.size)) (tM K w t tw g (L + 8 + ((bdP (mem f) 2 A0 e0).length : Nat)) P) 15 [(5, .int (iI (j))), (4, .int (iI (((A0 + e0 : Nat) : Int)))), (0, .ref (qn)), (1, .int (iI (h * 256))), (2, .int (iI (n))), (3, .ref (t))] [] := by
    intro k
    induction k with
    | zero =>
      intro j e0 g hk g0 g1_ v1 he hj hx
      exact absurd hk (by omega)
    | succ k ih =>
      intro j e0 g hk g0 g1_ v1 he hj hx
      have hT : tAt K (tM K w t tw g (L + 8 + ((bdP (mem f) 2 A0 e0).length : Nat)) P) t tw g (L + 8 + ((bdP (mem f) 2 A0 e0).length : Nat)) P := tAt_tM ht.ne
      have hN : nAt K (tM K w t tw g (L + 8 + ((bdP (mem f) 2 A0 e0).length : Nat)) P) qn wn f := hn.tm ht
      have hmb := bd_mono (mem f) 2 A0 (show e0 ≤ 256 by omega)
      rw [← hBD] at hmb
      refine hv_iload E dX3_tellRuns_15 0 rfl rfl ?_
      refine hv_iload_n E dX3_tellRuns_17 rfl 4 rfl rfl ?_
      refine hv_icmp_ge E 91 dX3_tellRuns_18 (by decide) ⟨by omega, by omega⟩ ⟨by omega, by omega⟩ rfl (fun c1 => ?_) (fun c1 => ?_)
      · have es : BD = bdP (mem f) 2 A0 e0 := by
          rw [hBD]
          refine bd2_skip (by omega) (fun u h1 h2 => ?_)
          cases e1 : bg (mem f) A0 u with
          | false => rfl
          | true =>
            have z1 := ct_step (S := bg (mem f) A0) (a := 0) h2 (by rw [Nat.zero_add]; exact e1)
            have z2 := ct_mono (bg (mem f) A0) 0 h1
            rw [← hCN] at z1
            omega
        exact hv_vret E dX3_tellRuns_91 hr ⟨g, by rw [es], by rw [es]; exact hx⟩
      · have hmore : ∃ u, A0 + e0 ≤ u ∧ u < A0 + 256 ∧ mem f u = true := by
          rcases Classical.em (∃ u, A0 + e0 ≤ u ∧ u < A0 + 256 ∧ mem f u = true) with q | q
          · exact q
          · exfalso
            have := ct_skip (S := bg (mem f) A0) (a := e0) (b := 256) v1 (fun u h1 h2 => by
              unfold bg
              cases e1 : mem f (A0 + u) with
              | false => rfl
              | true => exact absurd ⟨A0 + u, by omega, by omega, e1⟩ q)
            rw [← hCN] at this
            omega
        have v2 : e0 < 256 := by obtain ⟨u, u1, u2, u3⟩ := hmore; omega
        have ih0 := ih
        refine hv_aload_n E dX3_tellRuns_21 rfl 2 rfl rfl ?_
        refine hv_iload E dX3_tellRuns_22 1 rfl rfl ?_
        refine hv_callVI (na := 1) (As := [.int (iI (((A0 + e0 : Nat) : Int)))]) (st := []) E (c2_leastFrom l D K (((A0 + e0 : Nat) : Int)) (by omega) (by omega) hN) dX3_tellRuns_24 hN.1 (show vwCl[1]? = some (RX2, TX2, 1) from rfl) gL_X3_67 gV_X2_leastFrom gI_X2_leastFrom gC_X2_leastFrom gZ_X2 (by decide +kernel) rfl ⟨Nat.le_of_ble_eq_true rfl, Nat.le_of_ble_eq_true rfl⟩ (Nat.le_of_ble_eq_true rfl) ⟨Nat.zero_le _, Nat.zero_le _⟩ rfl rfl (fun r w2 hp => ?_)
        obtain ⟨⟨z, p1, p2⟩, p3⟩ := hp
        rw [p2, p3]
        show hm_V p l e (hm_rm 3 0 0) s m args below meth c D (hm_A w s.heap.size) 8 0 0 (MQ below (hm_Qv D w s.heap.size (fun w2 => ∃ g : Nat → Int32, w2 = tM K w t tw g (L + 8 + ((BD).length : Nat)) P ∧ tX tf L g (nb (n - 1).toNat 8 ++ BD))) args s 0 0 (hm_A w s.heap.size)) (tM K w t tw g (L + 8 + ((bdP (mem f) 2 A0 e0).length : Nat)) P) 27 [(5, .int (iI (j))), (4, .int (iI (((A0 + e0 : Nat) : Int)))), (0, .ref (qn)), (1, .int (iI (h * 256))), (2, .int (iI (n))), (3, .ref (t))] [.int (iI (z))]
        obtain ⟨z1, z3, z4, z5⟩ := next_pc (S := mem f) (a := A0) (v := ((A0 + e0 : Nat) : Int)) (by omega) (by omega) (by omega) p1 hmore
        obtain ⟨i0, hi0⟩ : ∃ i0 : Nat, z = ((A0 + i0 : Nat) : Int) := ⟨(z - A0).toNat, by omega⟩
        subst hi0
        show hm_V p l e (hm_rm 3 0 0) s m args below meth c D (hm_A w s.heap.size) 8 0 0 (MQ below (hm_Qv D w s.heap.size (fun w2 => ∃ g : Nat → Int32, w2 = tM K w t tw g (L + 8 + ((BD).length : Nat)) P ∧ tX tf L g (nb (n - 1).toNat 8 ++ BD))) args s 0 0 (hm_A w s.heap.size)) (tM K w t tw g (L + 8 + ((bdP (mem f) 2 A0 e0).length : Nat)) P) 27 [(5, .int (iI (j))), (4, .int (iI (((A0 + e0 : Nat) : Int)))), (0, .ref (qn)), (1, .int (iI (h * 256))), (2, .int (iI (n))), (3, .ref (t))] [.int (iI (((A0 + i0 : Nat) : Int)))]
        rw [Int.toNat_natCast] at z4 z5
        refine hv_istore (lv2 := [(6, .int (iI (((A0 + i0 : Nat) : Int)))), (5, .int (iI (j))), (4, .int (iI (((A0 + e0 : Nat) : Int)))), (0, .ref (qn)), (1, .int (iI (h * 256))), (2, .int (iI (n))), (3, .ref (t))]) E dX3_tellRuns_27 (by decide) rfl rfl ?_
        refine hv_iload E dX3_tellRuns_29 0 rfl rfl ?_
        refine hv_iconst E dX3_tellRuns_31 rfl ?_
        refine hv_iadd E dX3_tellRuns_32 rfl ?_
        refine hv_istore (lv2 := [(7, .int (iI ((((A0 + i0 : Nat) : Int)) + 1))), (6, .int (iI (((A0 + i0 : Nat) : Int)))), (5, .int (iI (j))), (4, .int (iI (((A0 + e0 : Nat) : Int)))), (0, .ref (qn)), (1, .int (iI (h * 256))), (2, .int (iI (n))), (3, .ref (t))]) E dX3_tellRuns_33 (by decide) rfl rfl ?_
        have L2 : ∀ (k : Nat) (j2 : Nat), ((256 : Int) - j2 < (k : Int)) → (i0 < j2) → (j2 ≤ 256) → (∀ u, i0 ≤ u → u < j2 → mem f (A0 + u) = true) → hm_V p l e (hm_rm 3 0 0) s m args below meth c D (hm_A w s.heap.size) 8 0 0 (MQ below (hm_Qv D w s.heap.size (fun w2 => ∃ g : Nat → Int32, w2 = tM K w t tw g (L + 8 + ((BD).length : Nat)) P ∧ tX tf L g (nb (n - 1).toNat 8 ++ BD))) args s 0 0 (hm_A w s.heap.size)) (tM K w t tw g (L + 8 + ((bdP (mem f) 2 A0 e0).length : Nat)) P) 35 [(7, .int (iI (((A0 + j2 : Nat) : Int)))), (6, .int (iI (((A0 + i0 : Nat) : Int)))), (5, .int (iI (j))), (4, .int (iI (((A0 + e0 : Nat) : Int)))), (0, .ref (qn)), (1, .int (iI (h * 256))), (2, .int (iI (n))), (3, .ref (t))] [] := by
          intro k
          induction k with
          | zero =>
            intro j2 hk2 y0 y1 hy
            exact absurd hk2 (by omega)
          | succ k ih =>
            intro j2 hk2 y0 y1 hy
            refine hv_iload E dX3_tellRuns_35 0 rfl rfl ?_
            refine hv_iload_n E dX3_tellRuns_37 rfl 5 rfl rfl ?_
            refine hv_sipush E dX3_tellRuns_38 (by decide +kernel) rfl ?_
            refine hv_iadd E dX3_tellRuns_41 rfl ?_
            refine hv_icmp_ge E 60 dX3_tellRuns_42 (by decide) ⟨by omega, by omega⟩ ⟨by omega, by omega⟩ rfl (fun c2 => ?_) (fun c2 => ?_)
            · obtain ⟨bs, cs2⟩ := run_step (S := mem f) (a := A0) (e := e0) (i := i0) (j := j2) (by omega) y0 y1 (by rcases he with q | q | q <;> first | exact Or.inl q | (exfalso; omega) | exact Or.inr q) (fun u h1 h2 => z5 (A0 + u) (by omega) (by omega)) hy (Or.inl (by omega))
              have hmz := bd_mono (mem f) 2 A0 y1
              rw [← hBD] at hmz
              have hlz : (bdP (mem f) 2 A0 j2).length = (bdP (mem f) 2 A0 e0).length + 16 := by rw [bs, List.length_append, List.length_append, nb_length, nb_length]
              refine hv_aload_n E dX3_tellRuns_60 rfl 7 rfl rfl ?_
              refine hv_iload E dX3_tellRuns_61 1 rfl rfl ?_
              refine hv_bipush E dX3_tellRuns_63 (by decide +kernel) rfl ?_
              refine hv_callVV (na := 2) (As := [.int (iI (((A0 + i0 : Nat) : Int))), .int (iI (8))]) (st := []) E (c4_append l D K (iI (((A0 + i0 : Nat) : Int))) (8) (by omega) (by omega) (by omega) hT (by omega) (by omega)) dX3_tellRuns_65 hT.1 (show vwCl[3]? = some (RX4, TX4, 3) from rfl) gL_X3_18 gV_X4_append gI_X4_append gC_X4_append gZ_X4 (by decide +kernel) rfl ⟨Nat.le_of_ble_eq_true rfl, Nat.le_of_ble_eq_true rfl⟩ (Nat.le_of_ble_eq_true rfl) ⟨Nat.zero_le _, Nat.zero_le _⟩ rfl rfl (fun w2 hp => ?_)
              obtain ⟨g2, e2, hf2, hf3⟩ := hp
              rw [tM_tM ht.ne] at e2
              rw [e2]
              show hm_V p l e (hm_rm 3 0 0) s m args below meth c D (hm_A w s.heap.size) 8 0 0 (MQ below (hm_Qv D w s.heap.size (fun w2 => ∃ g : Nat → Int32, w2 = tM K w t tw g (L + 8 + ((BD).length : Nat)) P ∧ tX tf L g (nb (n - 1).toNat 8 ++ BD))) args s 0 0 (hm_A w s.heap.size)) (tM K w t tw g2 ((L + 8 + ((bdP (mem f) 2 A0 e0).length : Nat)) + 8) P) 68 [(7, .int (iI (((A0 + j2 : Nat) : Int)))), (6, .int (iI (((A0 + i0 : Nat) : Int)))), (5, .int (iI (j))), (4, .int (iI (((A0 + e0 : Nat) : Int)))), (0, .ref (qn)), (1, .int (iI (h * 256))), (2, .int (iI (n))), (3, .ref (t))] []
              have hq := tX.nb (f := g) (g := g2) (z := ((A0 + i0 : Nat) : Int)) (n := 8) (by omega) (by omega) (by omega) (by omega) (by omega) hf2 hf3
              have hqa := hq
              have hT : tAt K (tM K w t tw g2 ((L + 8 + ((bdP (mem f) 2 A0 e0).length : Nat)) + 8) P) t tw g2 ((L + 8 + ((bdP (mem f) 2 A0 e0).length : Nat)) + 8) P := tAt_tM ht.ne
              refine hv_aload_n E dX3_tellRuns_68 rfl 7 rfl rfl ?_
              refine hv_iload E dX3_tellRuns_69 0 rfl rfl ?_
              refine hv_iload E dX3_tellRuns_71 1 rfl rfl ?_
              refine hv_isub E dX3_tellRuns_73 rfl ?_
              refine hv_iconst E dX3_tellRuns_74 rfl ?_
              refine hv_isub E dX3_tellRuns_75 rfl ?_
              refine hv_bipush E dX3_tellRuns_76 (by decide +kernel) rfl ?_
              refine hv_callVV (na := 2) (As := [.int (iI (((((A0 + j2 : Nat) : Int)) - (((A0 + i0 : Nat) : Int))) - 1)), .int (iI (8))]) (st := []) E (c4_append l D K (iI (((A0 + j2 : Nat) : Int) - ((A0 + i0 : Nat) : Int) - 1)) (8) (by omega) (by omega) (by omega) hT (by omega) (by omega)) dX3_tellRuns_78 hT.1 (show vwCl[3]? = some (RX4, TX4, 3) from rfl) gL_X3_18 gV_X4_append gI_X4_append gC_X4_append gZ_X4 (by decide +kernel) rfl ⟨Nat.le_of_ble_eq_true rfl, Nat.le_of_ble_eq_true rfl⟩ (Nat.le_of_ble_eq_true rfl) ⟨Nat.zero_le _, Nat.zero_le _⟩ rfl rfl (fun w2 hp => ?_)
              obtain ⟨g3, e2, hf2, hf3⟩ := hp
              rw [tM_tM ht.ne] at e2
              rw [e2]
              rw [show ((L + 8 + ((bdP (mem f) 2 A0 e0).length : Nat)) + 8) + 8 = L + 8 + ((bdP (mem f) 2 A0 j2).length : Nat) from (by omega)]
              show hm_V p l e (hm_rm 3 0 0) s m args below meth c D (hm_A w s.heap.size) 8 0 0 (MQ below (hm_Qv D w s.heap.size (fun w2 => ∃ g : Nat → Int32, w2 = tM K w t tw g (L + 8 + ((BD).length : Nat)) P ∧ tX tf L g (nb (n - 1).toNat 8 ++ BD))) args s 0 0 (hm_A w s.heap.size)) (tM K w t tw g3 (L + 8 + ((bdP (mem f) 2 A0 j2).length : Nat)) P) 81 [(7, .int (iI (((A0 + j2 : Nat) : Int)))), (6, .int (iI (((A0 + i0 : Nat) : Int)))), (5, .int (iI (j))), (4, .int (iI (((A0 + e0 : Nat) : Int)))), (0, .ref (qn)), (1, .int (iI (h * 256))), (2, .int (iI (n))), (3, .ref (t))] []
              have hq := tX.nb (f := g2) (g := g3) (z := ((A0 + j2 : Nat) : Int) - ((A0 + i0 : Nat) : Int) - 1) (n := 8) (by omega) (by omega) (by omega) (by omega) (by omega) hf2 hf3
              refine hv_iload E dX3_tellRuns_81 0 rfl rfl ?_
              refine hv_istore (lv2 := [(4, .int (iI (((A0 + j2 : Nat) : Int)))), (7, .int (iI (((A0 + j2 : Nat) : Int)))), (6, .int (iI (((A0 + i0 : Nat) : Int)))), (5, .int (iI (j))), (0, .ref (qn)), (1, .int (iI (h * 256))), (2, .int (iI (n))), (3, .ref (t))]) E dX3_tellRuns_83 (by decide) rfl rfl ?_
              refine hv_iinc (lv2 := [(5, .int (iI (j + 1))), (4, .int (iI (((A0 + j2 : Nat) : Int)))), (7, .int (iI (((A0 + j2 : Nat) : Int)))), (6, .int (iI (((A0 + i0 : Nat) : Int)))), (0, .ref (qn)), (1, .int (iI (h * 256))), (2, .int (iI (n))), (3, .ref (t))]) E dX3_tellRuns_85 3 rfl rfl (by decide) rfl rfl ?_
              refine hv_goto E 15 dX3_tellRuns_88 (by decide) ?_
              refine hv_sub (lv2 := [(5, .int (iI (j + 1))), (4, .int (iI (((A0 + j2 : Nat) : Int)))), (0, .ref (qn)), (1, .int (iI (h * 256))), (2, .int (iI (n))), (3, .ref (t))]) [0, 1, 4, 5, 6, 7] rfl ?_
              exact ih0 (j + 1) j2 g3 (by omega) (by omega) (by omega) (by omega) (Or.inr <| Or.inl (by omega)) (by rw [cs2, hj]; rfl) (by
                rw [bs, ← List.append_assoc, ← List.append_assoc]
                refine (hx.app (h := g2) (d := nb (A0 + i0) 8) hL0 ?_).app hL0 ?_
                · rw [List.length_append, nb_length, show L + ((8 + (bdP (mem f) 2 A0 e0).length : Nat) : Int) = L + 8 + ((bdP (mem f) 2 A0 e0).length : Nat) by omega]
                  rw [Int.toNat_natCast] at hqa
                  exact hqa
                · rw [List.length_append, List.length_append, nb_length, nb_length, show L + ((8 + (bdP (mem f) 2 A0 e0).length + 8 : Nat) : Int) = L + 8 + ((bdP (mem f) 2 A0 e0).length : Nat) + 8 by omega]
                  rw [show (((A0 + j2 : Nat) : Int) - ((A0 + i0 : Nat) : Int) - 1).toNat = j2 - i0 - 1 by omega] at hq
                  exact hq)
            · refine hv_aload_n E dX3_tellRuns_45 rfl 4 rfl rfl ?_
              refine hv_iload E dX3_tellRuns_46 0 rfl rfl ?_
              refine hv_callVI (na := 1) (As := [.int (iI (((A0 + j2 : Nat) : Int)))]) (st := []) E (c2_holds l D K ((A0 + j2 : Nat) : Int) ⟨by omega, by omega⟩ hN) dX3_tellRuns_48 hN.1 (show vwCl[1]? = some (RX2, TX2, 1) from rfl) gL_X3_70 gV_X2_holds gI_X2_holds gC_X2_holds gZ_X2 (by decide +kernel) rfl ⟨Nat.le_of_ble_eq_true rfl, Nat.le_of_ble_eq_true rfl⟩ (Nat.le_of_ble_eq_true rfl) ⟨Nat.zero_le _, Nat.zero_le _⟩ rfl rfl (fun r w2 hp => ?_)
              rw [hp.1, hp.2, decide_eq_true (show 0 ≤ ((A0 + j2 : Nat) : Int) ∧ ((A0 + j2 : Nat) : Int) < 4096 by omega), Bool.true_and, Int.toNat_natCast]
              show hm_V p l e (hm_rm 3 0 0) s m args below meth c D (hm_A w s.heap.size) 8 0 0 (MQ below (hm_Qv D w s.heap.size (fun w2 => ∃ g : Nat → Int32, w2 = tM K w t tw g (L + 8 + ((BD).length : Nat)) P ∧ tX tf L g (nb (n - 1).toNat 8 ++ BD))) args s 0 0 (hm_A w s.heap.size)) (tM K w t tw g (L + 8 + ((bdP (mem f) 2 A0 e0).length : Nat)) P) 51 [(7, .int (iI (((A0 + j2 : Nat) : Int)))), (6, .int (iI (((A0 + i0 : Nat) : Int)))), (5, .int (iI (j))), (4, .int (iI (((A0 + e0 : Nat) : Int)))), (0, .ref (qn)), (1, .int (iI (h * 256))), (2, .int (iI (n))), (3, .ref (t))] [.int (bI (mem f (A0 + j2)))]
              refine hv_if_eqB E 60 dX3_tellRuns_51 (by decide) rfl (fun c4 => ?_) (fun c4 => ?_)
              · obtain ⟨bs, cs2⟩ := run_step (S := mem f) (a := A0) (e := e0) (i := i0) (j := j2) (by omega) y0 y1 (by rcases he with q | q | q <;> first | exact Or.inl q | (exfalso; omega) | exact Or.inr q) (fun u h1 h2 => z5 (A0 + u) (by omega) (by omega)) hy (Or.inr c4)
                have hmz := bd_mono (mem f) 2 A0 y1
                rw [← hBD] at hmz
                have hlz : (bdP (mem f) 2 A0 j2).length = (bdP (mem f) 2 A0 e0).length + 16 := by rw [bs, List.length_append, List.length_append, nb_length, nb_length]
                refine hv_aload_n E dX3_tellRuns_60 rfl 7 rfl rfl ?_
                refine hv_iload E dX3_tellRuns_61 1 rfl rfl ?_
                refine hv_bipush E dX3_tellRuns_63 (by decide +kernel) rfl ?_
                refine hv_callVV (na := 2) (As := [.int (iI (((A0 + i0 : Nat) : Int))), .int (iI (8))]) (st := []) E (c4_append l D K (iI (((A0 + i0 : Nat) : Int))) (8) (by omega) (by omega) (by omega) hT (by omega) (by omega)) dX3_tellRuns_65 hT.1 (show vwCl[3]? = some (RX4, TX4, 3) from rfl) gL_X3_18 gV_X4_append gI_X4_append gC_X4_append gZ_X4 (by decide +kernel) rfl ⟨Nat.le_of_ble_eq_true rfl, Nat.le_of_ble_eq_true rfl⟩ (Nat.le_of_ble_eq_true rfl) ⟨Nat.zero_le _, Nat.zero_le _⟩ rfl rfl (fun w2 hp => ?_)
                obtain ⟨g2, e2, hf2, hf3⟩ := hp
                rw [tM_tM ht.ne] at e2
                rw [e2]
                show hm_V p l e (hm_rm 3 0 0) s m args below meth c D (hm_A w s.heap.size) 8 0 0 (MQ below (hm_Qv D w s.heap.size (fun w2 => ∃ g : Nat → Int32, w2 = tM K w t tw g (L + 8 + ((BD).length : Nat)) P ∧ tX tf L g (nb (n - 1).toNat 8 ++ BD))) args s 0 0 (hm_A w s.heap.size)) (tM K w t tw g2 ((L + 8 + ((bdP (mem f) 2 A0 e0).length : Nat)) + 8) P) 68 [(7, .int (iI (((A0 + j2 : Nat) : Int)))), (6, .int (iI (((A0 + i0 : Nat) : Int)))), (5, .int (iI (j))), (4, .int (iI (((A0 + e0 : Nat) : Int)))), (0, .ref (qn)), (1, .int (iI (h * 256))), (2, .int (iI (n))), (3, .ref (t))] []
                have hq := tX.nb (f := g) (g := g2) (z := ((A0 + i0 : Nat) : Int)) (n := 8) (by omega) (by omega) (by omega) (by omega) (by omega) hf2 hf3
                have hqa := hq
                have hT : tAt K (tM K w t tw g2 ((L + 8 + ((bdP (mem f) 2 A0 e0).length : Nat)) + 8) P) t tw g2 ((L + 8 + ((bdP (mem f) 2 A0 e0).length : Nat)) + 8) P := tAt_tM ht.ne
                refine hv_aload_n E dX3_tellRuns_68 rfl 7 rfl rfl ?_
                refine hv_iload E dX3_tellRuns_69 0 rfl rfl ?_
                refine hv_iload E dX3_tellRuns_71 1 rfl rfl ?_
                refine hv_isub E dX3_tellRuns_73 rfl ?_
                refine hv_iconst E dX3_tellRuns_74 rfl ?_
                refine hv_isub E dX3_tellRuns_75 rfl ?_
                refine hv_bipush E dX3_tellRuns_76 (by decide +kernel) rfl ?_
                refine hv_callVV (na := 2) (As := [.int (iI (((((A0 + j2 : Nat) : Int)) - (((A0 + i0 : Nat) : Int))) - 1)), .int (iI (8))]) (st := []) E (c4_append l D K (iI (((A0 + j2 : Nat) : Int) - ((A0 + i0 : Nat) : Int) - 1)) (8) (by omega) (by omega) (by omega) hT (by omega) (by omega)) dX3_tellRuns_78 hT.1 (show vwCl[3]? = some (RX4, TX4, 3) from rfl) gL_X3_18 gV_X4_append gI_X4_append gC_X4_append gZ_X4 (by decide +kernel) rfl ⟨Nat.le_of_ble_eq_true rfl, Nat.le_of_ble_eq_true rfl⟩ (Nat.le_of_ble_eq_true rfl) ⟨Nat.zero_le _, Nat.zero_le _⟩ rfl rfl (fun w2 hp => ?_)
                obtain ⟨g3, e2, hf2, hf3⟩ := hp
                rw [tM_tM ht.ne] at e2
                rw [e2]
                rw [show ((L + 8 + ((bdP (mem f) 2 A0 e0).length : Nat)) + 8) + 8 = L + 8 + ((bdP (mem f) 2 A0 j2).length : Nat) from (by omega)]
                show hm_V p l e (hm_rm 3 0 0) s m args below meth c D (hm_A w s.heap.size) 8 0 0 (MQ below (hm_Qv D w s.heap.size (fun w2 => ∃ g : Nat → Int32, w2 = tM K w t tw g (L + 8 + ((BD).length : Nat)) P ∧ tX tf L g (nb (n - 1).toNat 8 ++ BD))) args s 0 0 (hm_A w s.heap.size)) (tM K w t tw g3 (L + 8 + ((bdP (mem f) 2 A0 j2).length : Nat)) P) 81 [(7, .int (iI (((A0 + j2 : Nat) : Int)))), (6, .int (iI (((A0 + i0 : Nat) : Int)))), (5, .int (iI (j))), (4, .int (iI (((A0 + e0 : Nat) : Int)))), (0, .ref (qn)), (1, .int (iI (h * 256))), (2, .int (iI (n))), (3, .ref (t))] []
                have hq := tX.nb (f := g2) (g := g3) (z := ((A0 + j2 : Nat) : Int) - ((A0 + i0 : Nat) : Int) - 1) (n := 8) (by omega) (by omega) (by omega) (by omega) (by omega) hf2 hf3
                refine hv_iload E dX3_tellRuns_81 0 rfl rfl ?_
                refine hv_istore (lv2 := [(4, .int (iI (((A0 + j2 : Nat) : Int)))), (7, .int (iI (((A0 + j2 : Nat) : Int)))), (6, .int (iI (((A0 + i0 : Nat) : Int)))), (5, .int (iI (j))), (0, .ref (qn)), (1, .int (iI (h * 256))), (2, .int (iI (n))), (3, .ref (t))]) E dX3_tellRuns_83 (by decide) rfl rfl ?_
                refine hv_iinc (lv2 := [(5, .int (iI (j + 1))), (4, .int (iI (((A0 + j2 : Nat) : Int)))), (7, .int (iI (((A0 + j2 : Nat) : Int)))), (6, .int (iI (((A0 + i0 : Nat) : Int)))), (0, .ref (qn)), (1, .int (iI (h * 256))), (2, .int (iI (n))), (3, .ref (t))]) E dX3_tellRuns_85 3 rfl rfl (by decide) rfl rfl ?_
                refine hv_goto E 15 dX3_tellRuns_88 (by decide) ?_
                refine hv_sub (lv2 := [(5, .int (iI (j + 1))), (4, .int (iI (((A0 + j2 : Nat) : Int)))), (0, .ref (qn)), (1, .int (iI (h * 256))), (2, .int (iI (n))), (3, .ref (t))]) [0, 1, 4, 5, 6, 7] rfl ?_
                exact ih0 (j + 1) j2 g3 (by omega) (by omega) (by omega) (by omega) (Or.inr (Or.inr c4)) (by rw [cs2, hj]; rfl) (by
                  rw [bs, ← List.append_assoc, ← List.append_assoc]
                  refine (hx.app (h := g2) (d := nb (A0 + i0) 8) hL0 ?_).app hL0 ?_
                  · rw [List.length_append, nb_length, show L + ((8 + (bdP (mem f) 2 A0 e0).length : Nat) : Int) = L + 8 + ((bdP (mem f) 2 A0 e0).length : Nat) by omega]
                    rw [Int.toNat_natCast] at hqa
                    exact hqa
                  · rw [List.length_append, List.length_append, nb_length, nb_length, show L + ((8 + (bdP (mem f) 2 A0 e0).length + 8 : Nat) : Int) = L + 8 + ((bdP (mem f) 2 A0 e0).length : Nat) + 8 by omega]
                    rw [show (((A0 + j2 : Nat) : Int) - ((A0 + i0 : Nat) : Int) - 1).toNat = j2 - i0 - 1 by omega] at hq
                    exact hq)
              · refine hv_iinc (lv2 := [(7, .int (iI ((((A0 + j2 : Nat) : Int)) + 1))), (6, .int (iI (((A0 + i0 : Nat) : Int)))), (5, .int (iI (j))), (4, .int (iI (((A0 + e0 : Nat) : Int)))), (0, .ref (qn)), (1, .int (iI (h * 256))), (2, .int (iI (n))), (3, .ref (t))]) E dX3_tellRuns_54 0 rfl rfl (by decide) rfl rfl ?_
                refine hv_goto E 35 dX3_tellRuns_57 (by decide) ?_
                show hm_V p l e (hm_rm 3 0 0) s m args below meth c D (hm_A w s.heap.size) 8 0 0 (MQ below (hm_Qv D w s.heap.size (fun w2 => ∃ g : Nat → Int32, w2 = tM K w t tw g (L + 8 + ((BD).length : Nat)) P ∧ tX tf L g (nb (n - 1).toNat 8 ++ BD))) args s 0 0 (hm_A w s.heap.size)) (tM K w t tw g (L + 8 + ((bdP (mem f) 2 A0 e0).length : Nat)) P) 35 [(7, .int (iI (((A0 + (j2 + 1) : Nat) : Int)))), (6, .int (iI (((A0 + i0 : Nat) : Int)))), (5, .int (iI (j))), (4, .int (iI (((A0 + e0 : Nat) : Int)))), (0, .ref (qn)), (1, .int (iI (h * 256))), (2, .int (iI (n))), (3, .ref (t))] []
                refine hv_sub (lv2 := [(7, .int (iI (((A0 + (j2 + 1) : Nat) : Int)))), (6, .int (iI (((A0 + i0 : Nat) : Int)))), (5, .int (iI (j))), (4, .int (iI (((A0 + e0 : Nat) : Int)))), (0, .ref (qn)), (1, .int (iI (h * 256))), (2, .int (iI (n))), (3, .ref (t))]) [0, 1, 2, 3, 4, 5, 6, 7] rfl ?_
                exact ih (j2 + 1) (by omega) (by omega) (by omega) (fun u h1 h2 => by
                      rcases (show u < j2 ∨ u = j2 by omega) with q | q
                      · exact hy u h1 q
                      · rw [q]; exact c4)
        show hm_V p l e (hm_rm 3 0 0) s m args below meth c D (hm_A w s.heap.size) 8 0 0 (MQ below (hm_Qv D w s.heap.size (fun w2 => ∃ g : Nat → Int32, w2 = tM K w t tw g (L + 8 + ((BD).length : Nat)) P ∧ tX tf L g (nb (n - 1).toNat 8 ++ BD))) args s 0 0 (hm_A w s.heap.size)) (tM K w t tw g (L + 8 + ((bdP (mem f) 2 A0 e0).length : Nat)) P) 35 [(7, .int (iI (((A0 + (i0 + 1) : Nat) : Int)))), (6, .int (iI (((A0 + i0 : Nat) : Int)))), (5, .int (iI (j))), (4, .int (iI (((A0 + e0 : Nat) : Int)))), (0, .ref (qn)), (1, .int (iI (h * 256))), (2, .int (iI (n))), (3, .ref (t))] []
        refine hv_sub (lv2 := [(7, .int (iI (((A0 + (i0 + 1) : Nat) : Int)))), (6, .int (iI (((A0 + i0 : Nat) : Int)))), (5, .int (iI (j))), (4, .int (iI (((A0 + e0 : Nat) : Int)))), (0, .ref (qn)), (1, .int (iI (h * 256))), (2, .int (iI (n))), (3, .ref (t))]) [0, 1, 2, 3, 4, 5, 6, 7] rfl ?_
        exact L2 257 (i0 + 1) (by omega) (by omega) (by omega) (fun u h1 h2 => by rw [show u = i0 by omega]; exact z4)
  rw [show h * 256 = ((A0 + 0 : Nat) : Int) by omega]
  show hm_V p l e (hm_rm 3 0 0) s m args below meth c D (hm_A w s.heap.size) 8 0 0 (MQ below (hm_Qv D w s.heap.size (fun w2 => ∃ g : Nat → Int32, w2 = tM K w t tw g (L + 8 + ((BD).length : Nat)) P ∧ tX tf L g (nb (n - 1).toNat 8 ++ BD))) args s 0 0 (hm_A w s.heap.size)) (tM K w t tw g1 (L + 8 + ((bdP (mem f) 2 A0 0).length : Nat)) P) 15 [(5, .int (iI (0))), (4, .int (iI (((A0 + 0 : Nat) : Int)))), (0, .ref (qn)), (1, .int (iI (((A0 + 0 : Nat) : Int)))), (2, .int (iI (n))), (3, .ref (t))] []
  have h9 := LP (CN + 1) 0 0 g1 (by omega) (by omega) (by omega) (by omega) (Or.inl rfl) rfl hq1
  rw [show h * 256 = ((A0 + 0 : Nat) : Int) by omega] at h9
  refine hv_sub (lv2 := [(5, .int (iI (0))), (4, .int (iI (((A0 + 0 : Nat) : Int)))), (0, .ref (qn)), (1, .int (iI (((A0 + 0 : Nat) : Int)))), (2, .int (iI (n))), (3, .ref (t))]) [0, 1, 2, 3, 4, 5] rfl ?_
  exact h9
