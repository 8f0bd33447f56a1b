theorem nb_0 : nb (0 : Int).toNat (1 : Int).toNat = [false] := by decide
theorem nb_1 : nb (1 : Int).toNat (1 : Int).toNat = [true] := by decide
theorem rep_len (n : Nat) : (List.replicate n false).length = n := List.length_replicate
theorem rep_s (n : Nat) : List.replicate n false ++ [false] = List.replicate (n + 1) false := List.replicate_succ'.symm
set_option maxHeartbeats 4000000 in
set_option maxRecDepth 100000 in
theorem c5_tellHigh (l : Launch) (D : va_G) (K : Nat → ClassId) {w : hm_M} {qn wn t tw : Nat} {f tf : Nat → Int32} {L P : Int} (n : Int) (hn0 : n = (ct (mem f) 0 4096 : Nat)) (hn1 : 1 ≤ n) (hL1 : L + ((hiP (mem f) (lw n.toNat) 4096).length : Nat) ≤ 8210) (hn : nAt K w qn wn f) (ht : tAt K w t tw tf L P) (hL0 : 0 ≤ L)  : hm_Cv l D K yX5_tellHighParts cX5_tellHighParts 7 3 [.ref (qn), .int (iI (n)), .ref (t)] w 0 0 (fun w2 => ∃ g : Nat → Int32, w2 = tM K w t tw g (L + ((hiP (mem f) (lw n.toNat) 4096).length : Nat)) P ∧ tX tf L g (hiP (mem f) (lw n.toNat) 4096)) := by
  refine hm_enterV (by decide) (Nat.le_of_ble_eq_true rfl) ?_
  intro p e s m args below meth c E hr hnm
  show hm_V p l e (hm_rm 3 0 0) s m args below meth c D (hm_A w s.heap.size) 7 0 0 (MQ below (hm_Qv D w s.heap.size (fun w2 => ∃ g : Nat → Int32, w2 = tM K w t tw g (L + ((hiP (mem f) (lw n.toNat) 4096).length : Nat)) P ∧ tX tf L g (hiP (mem f) (lw n.toNat) 4096))) args s 0 0 (hm_A w s.heap.size)) w 0 [(0, .ref (qn)), (1, .int (iI (n))), (2, .ref (t))] []
  have hc := ct_le (mem f) 0 4096
  refine hv_iload_n E dX5_tellHighParts_0 rfl 1 rfl rfl ?_
  refine hv_callSI (na := 1) (As := [.int (iI (n))]) (st := []) E (c5_lowBits l D K n (by omega) (by omega)) dX5_tellHighParts_1 gL_X5_44 gS_X5_lowBits gC_X5_lowBits gZ_X5 (by decide +kernel) rfl ⟨Nat.le_of_ble_eq_true rfl, Nat.le_of_ble_eq_true rfl⟩ (Nat.le_of_ble_eq_true rfl) ⟨Nat.zero_le _, Nat.zero_le _⟩ rfl rfl (fun r w2 hp => ?_)
  obtain ⟨⟨lo, l1, l2, l3⟩, l4⟩ := hp
  rw [l1, l4]
  show hm_V p l e (hm_rm 3 0 0) s m args below meth c D (hm_A w s.heap.size) 7 0 0 (MQ below (hm_Qv D w s.heap.size (fun w2 => ∃ g : Nat → Int32, w2 = tM K w t tw g (L + ((hiP (mem f) (lw n.toNat) 4096).length : Nat)) P ∧ tX tf L g (hiP (mem f) (lw n.toNat) 4096))) args s 0 0 (hm_A w s.heap.size)) w 4 [(0, .ref (qn)), (1, .int (iI (n))), (2, .ref (t))] [.int (iI ((lo : Int)))]
  have l5 := l3 hn1
  rw [← l5] at hL1 ⊢
  obtain ⟨DV, hDV⟩ : ∃ z, z = 4096 / 2 ^ lo := ⟨_, rfl⟩
  obtain ⟨HI, hHI⟩ : ∃ z, z = hiP (mem f) lo 4096 := ⟨_, rfl⟩
  have hlen4 : HI.length = ct (mem f) 0 4096 + DV := by rw [hHI, hDV]; exact hiP_length _ _ _
  have hdv : DV ≤ 4096 := by rw [hDV]; exact Nat.div_le_self _ _
  rw [← hHI] at hL1 ⊢
  show hm_V p l e (hm_rm 3 0 0) s m args below meth c D (hm_A w s.heap.size) 7 0 0 (MQ below (hm_Qv D w s.heap.size (fun w2 => ∃ g : Nat → Int32, w2 = tM K w t tw g (L + ((HI).length : Nat)) P ∧ tX tf L g (HI))) args s 0 0 (hm_A w s.heap.size)) w 4 [(0, .ref (qn)), (1, .int (iI (n))), (2, .ref (t))] [.int (iI ((lo : Int)))]
  refine hv_istore_n (lv2 := [(3, .int (iI ((lo : Int)))), (0, .ref (qn)), (1, .int (iI (n))), (2, .ref (t))]) E dX5_tellHighParts_4 rfl (by decide) rfl rfl ?_
  refine hv_iconst E dX5_tellHighParts_5 rfl ?_
  refine hv_istore (lv2 := [(4, .int (iI (0))), (3, .int (iI ((lo : Int)))), (0, .ref (qn)), (1, .int (iI (n))), (2, .ref (t))]) E dX5_tellHighParts_6 (by decide) rfl rfl ?_
  refine hv_iconst E dX5_tellHighParts_8 rfl ?_
  refine hv_istore (lv2 := [(5, .int (iI ((-1)))), (4, .int (iI (0))), (3, .int (iI ((lo : Int)))), (0, .ref (qn)), (1, .int (iI (n))), (2, .ref (t))]) E dX5_tellHighParts_9 (by decide) rfl rfl ?_
  refine hv_iconst E dX5_tellHighParts_11 rfl ?_
  refine hv_istore (lv2 := [(6, .int (iI (0))), (5, .int (iI ((-1)))), (4, .int (iI (0))), (3, .int (iI ((lo : Int)))), (0, .ref (qn)), (1, .int (iI (n))), (2, .ref (t))]) E dX5_tellHighParts_12 (by decide) rfl rfl ?_
  refine hv_mem (show w = tM K w t tw tf (L + ((emP (mem f) lo (-1)).length : Nat)) P from (by rw [show L + ((emP (mem f) lo (-1)).length : Nat) = L by simp [emP]]; exact tM_id ht)) ?_
  have LP : ∀ (k : Nat) (j v : Int) (g : Nat → Int32), (n - j < (k : Int)) → (0 ≤ j) → (j ≤ n) → (-1 ≤ v) → (v < 4096) → (0 ≤ v → mem f v.toNat = true) → (j = (ct (mem f) 0 (v + 1).toNat : Nat)) → (tX tf L g (emP (mem f) lo v)) → hm_V p l e (hm_rm 3 0 0) s m args below meth c D (hm_A w s.heap.size) 7 0 0 (MQ below (hm_Qv D w s.heap.size (fun w2 => ∃ g : Nat → Int32, w2 = tM K w t tw g (L + ((HI).length : Nat)) P ∧ tX tf L g (HI))) args s 0 0 (hm_A w s.heap.size)) (tM K w t tw g (L + ((emP (mem f) lo v).length : Nat)) P) 14 [(6, .int (iI (j))), (5, .int (iI (v))), (4, .int (iI (((emH lo v : Nat) : Int)))), (3, .int (iI ((lo : Int)))), (0, .ref (qn)), (1, .int (iI (n))), (2, .ref (t))] [] := by
    intro k
    induction k with
    | zero =>
      intro j v g hk g0 g1 v0 v1 vS hj hx
      exact absurd hk (by omega)
    | succ k ih =>
      intro j v g hk g0 g1 v0 v1 vS hj hx
      have hT : tAt K (tM K w t tw g (L + ((emP (mem f) lo v).length : Nat)) P) t tw g (L + ((emP (mem f) lo v).length : Nat)) P := tAt_tM ht.ne
      have hN : nAt K (tM K w t tw g (L + ((emP (mem f) lo v).length : Nat)) P) qn wn f := hn.tm ht
      have hm1 := ct_mono (mem f) 0 (show (v + 1).toNat ≤ 4096 by omega)
      have hel := emP_len (S := mem f) (l := lo) vS
      refine hv_iload E dX5_tellHighParts_14 0 rfl rfl ?_
      refine hv_iload_n E dX5_tellHighParts_16 rfl 5 rfl rfl ?_
      refine hv_icmp_ge E 63 dX5_tellHighParts_17 (by decide) ⟨by omega, by omega⟩ ⟨by omega, by omega⟩ rfl (fun c1 => ?_) (fun c1 => ?_)
      · have v2 : 0 ≤ v := by
          rcases (show v = -1 ∨ 0 ≤ v by omega) with q | q
          · rw [q] at hj; simp [ct] at hj; omega
          · exact q
        have es := emP_next (S := mem f) (l := lo) (v := v) (b := 4096) vS (by omega) (fun u h1 h2 => by
          cases e1 : mem f u with
          | false => rfl
          | true =>
            have z1 := ct_step (S := mem f) (a := 0) h2 (by rw [Nat.zero_add]; exact e1)
            have z2 := ct_mono (mem f) 0 (show (v + 1).toNat ≤ u by omega)
            omega)
        rw [← hHI, ← hDV] at es
        have eh : emH lo v ≤ DV := by rw [hDV]; unfold emH; rw [if_neg (by omega)]; exact Nat.div_le_div_right (by omega)
        have esl : HI.length = (emP (mem f) lo v).length + (DV - emH lo v) := by rw [es, List.length_append, rep_len]
        refine hv_mem (show tM K w t tw g (L + ((emP (mem f) lo v).length : Nat)) P = tM K w t tw g (L + ((emP (mem f) lo v).length : Nat) + ((emH lo v - emH lo v : Nat) : Int)) P from (by rw [Nat.sub_self]; simp)) ?_
        have L2 : ∀ (k : Nat) (h : Nat) (g2 : Nat → Int32), ((DV : Int) - h < (k : Int)) → (emH lo v ≤ h) → (h ≤ DV) → (tX tf L g2 (emP (mem f) lo v ++ List.replicate (h - emH lo v) false)) → hm_V p l e (hm_rm 3 0 0) s m args below meth c D (hm_A w s.heap.size) 7 0 0 (MQ below (hm_Qv D w s.heap.size (fun w2 => ∃ g : Nat → Int32, w2 = tM K w t tw g (L + ((HI).length : Nat)) P ∧ tX tf L g (HI))) args s 0 0 (hm_A w s.heap.size)) (tM K w t tw g2 (L + ((emP (mem f) lo v).length : Nat) + ((h - emH lo v : Nat) : Int)) P) 63 [(4, .int (iI ((h : Int)))), (6, .int (iI (j))), (5, .int (iI (v))), (3, .int (iI ((lo : Int)))), (0, .ref (qn)), (1, .int (iI (n))), (2, .ref (t))] [] := by
          intro k
          induction k with
          | zero =>
            intro h g2 hk2 y0 y1 hx2
            exact absurd hk2 (by omega)
          | succ k ih =>
            intro h g2 hk2 y0 y1 hx2
            have hT : tAt K (tM K w t tw g2 (L + ((emP (mem f) lo v).length : Nat) + ((h - emH lo v : Nat) : Int)) P) t tw g2 (L + ((emP (mem f) lo v).length : Nat) + ((h - emH lo v : Nat) : Int)) P := tAt_tM ht.ne
            refine hv_iload E dX5_tellHighParts_63 0 rfl rfl ?_
            refine hv_iload_n E dX5_tellHighParts_65 rfl 3 rfl rfl ?_
            refine hv_callSI (na := 1) (As := [.int (iI ((lo : Int)))]) (st := [.int (iI ((h : Int)))]) E (c5_highParts l D K lo l2) dX5_tellHighParts_66 gL_X5_57 gS_X5_highParts gC_X5_highParts gZ_X5 (by decide +kernel) rfl ⟨Nat.le_of_ble_eq_true rfl, Nat.le_of_ble_eq_true rfl⟩ (Nat.le_of_ble_eq_true rfl) ⟨Nat.zero_le _, Nat.zero_le _⟩ rfl rfl (fun r w2 hp => ?_)
            rw [hp.1, hp.2, ← hDV]
            show hm_V p l e (hm_rm 3 0 0) s m args below meth c D (hm_A w s.heap.size) 7 0 0 (MQ below (hm_Qv D w s.heap.size (fun w2 => ∃ g : Nat → Int32, w2 = tM K w t tw g (L + ((HI).length : Nat)) P ∧ tX tf L g (HI))) args s 0 0 (hm_A w s.heap.size)) (tM K w t tw g2 (L + ((emP (mem f) lo v).length : Nat) + ((h - emH lo v : Nat) : Int)) P) 69 [(4, .int (iI ((h : Int)))), (6, .int (iI (j))), (5, .int (iI (v))), (3, .int (iI ((lo : Int)))), (0, .ref (qn)), (1, .int (iI (n))), (2, .ref (t))] [.int (iI ((DV : Int))), .int (iI ((h : Int)))]
            refine hv_icmp_ge E 84 dX5_tellHighParts_69 (by decide) ⟨by omega, by omega⟩ ⟨by omega, by omega⟩ rfl (fun c2 => ?_) (fun c2 => ?_)
            · exact hv_vret E dX5_tellHighParts_84 hr ⟨g2, by rw [show L + ((emP (mem f) lo v).length : Nat) + ((h - emH lo v : Nat) : Int) = L + (HI.length : Nat) by omega], by rw [es, show DV = h by omega]; exact hx2⟩
            · refine hv_aload_n E dX5_tellHighParts_72 rfl 6 rfl rfl ?_
              refine hv_iconst E dX5_tellHighParts_73 rfl ?_
              refine hv_iconst E dX5_tellHighParts_74 rfl ?_
              refine hv_callVV (na := 2) (As := [.int (iI (0)), .int (iI (1))]) (st := []) E (c4_append l D K (iI (0)) (1) (by omega) (by omega) (by omega) hT (by omega) (by omega)) dX5_tellHighParts_75 hT.1 (show vwCl[3]? = some (RX4, TX4, 3) from rfl) gL_X5_21 gV_X4_append gI_X4_append gC_X4_append gZ_X4 (by decide +kernel) rfl ⟨Nat.le_of_ble_eq_true rfl, Nat.le_of_ble_eq_true rfl⟩ (Nat.le_of_ble_eq_true rfl) ⟨Nat.zero_le _, Nat.zero_le _⟩ rfl rfl (fun w2 hp => ?_)
              obtain ⟨g3, e2, hf2, hf3⟩ := hp
              rw [tM_tM ht.ne] at e2
              rw [e2]
              rw [show (L + ((emP (mem f) lo v).length : Nat) + ((h - emH lo v : Nat) : Int)) + 1 = L + ((emP (mem f) lo v).length : Nat) + ((h + 1 - emH lo v : Nat) : Int) from (by omega)]
              show hm_V p l e (hm_rm 3 0 0) s m args below meth c D (hm_A w s.heap.size) 7 0 0 (MQ below (hm_Qv D w s.heap.size (fun w2 => ∃ g : Nat → Int32, w2 = tM K w t tw g (L + ((HI).length : Nat)) P ∧ tX tf L g (HI))) args s 0 0 (hm_A w s.heap.size)) (tM K w t tw g3 (L + ((emP (mem f) lo v).length : Nat) + ((h + 1 - emH lo v : Nat) : Int)) P) 78 [(4, .int (iI ((h : Int)))), (6, .int (iI (j))), (5, .int (iI (v))), (3, .int (iI ((lo : Int)))), (0, .ref (qn)), (1, .int (iI (n))), (2, .ref (t))] []
              have hq := tX.nb (f := g2) (g := g3) (z := 0) (n := 1) (by omega) (by omega) (by omega) (by omega) (by omega) hf2 hf3
              refine hv_iinc (lv2 := [(4, .int (iI (((h : Int)) + 1))), (6, .int (iI (j))), (5, .int (iI (v))), (3, .int (iI ((lo : Int)))), (0, .ref (qn)), (1, .int (iI (n))), (2, .ref (t))]) E dX5_tellHighParts_78 0 rfl rfl (by decide) rfl rfl ?_
              refine hv_goto E 63 dX5_tellHighParts_81 (by decide) ?_
              show hm_V p l e (hm_rm 3 0 0) s m args below meth c D (hm_A w s.heap.size) 7 0 0 (MQ below (hm_Qv D w s.heap.size (fun w2 => ∃ g : Nat → Int32, w2 = tM K w t tw g (L + ((HI).length : Nat)) P ∧ tX tf L g (HI))) args s 0 0 (hm_A w s.heap.size)) (tM K w t tw g3 (L + ((emP (mem f) lo v).length : Nat) + ((h + 1 - emH lo v : Nat) : Int)) P) 63 [(4, .int (iI (((h + 1 : Nat) : Int)))), (6, .int (iI (j))), (5, .int (iI (v))), (3, .int (iI ((lo : Int)))), (0, .ref (qn)), (1, .int (iI (n))), (2, .ref (t))] []
              refine hv_sub (lv2 := [(4, .int (iI (((h + 1 : Nat) : Int)))), (6, .int (iI (j))), (5, .int (iI (v))), (3, .int (iI ((lo : Int)))), (0, .ref (qn)), (1, .int (iI (n))), (2, .ref (t))]) [0, 1, 2, 3, 4, 5, 6] rfl ?_
              exact ih (h + 1) g3 (by omega) (by omega) (by omega) (by
                    rw [show h + 1 - emH lo v = h - emH lo v + 1 by omega, ← rep_s, ← List.append_assoc]
                    refine hx2.app hL0 ?_
                    rw [nb_0] at hq
                    rw [show L + ((emP (mem f) lo v ++ List.replicate (h - emH lo v) false).length : Nat) = L + ((emP (mem f) lo v).length : Nat) + ((h - emH lo v : Nat) : Int) by rw [List.length_append, rep_len]; push_cast; omega]
                    exact hq)
        refine hv_sub (lv2 := [(4, .int (iI (((emH lo v : Nat) : Int)))), (6, .int (iI (j))), (5, .int (iI (v))), (3, .int (iI ((lo : Int)))), (0, .ref (qn)), (1, .int (iI (n))), (2, .ref (t))]) [2, 0, 1, 3, 4, 5, 6] rfl ?_
        exact L2 (DV + 1) (emH lo v) g (by omega) (by omega) (by omega) (by rw [Nat.sub_self]; simpa using hx)
      · have ih0 := ih
        refine hv_aload_n E dX5_tellHighParts_20 rfl 4 rfl rfl ?_
        refine hv_iload E dX5_tellHighParts_21 1 rfl rfl ?_
        refine hv_iconst E dX5_tellHighParts_23 rfl ?_
        refine hv_iadd E dX5_tellHighParts_24 rfl ?_
        refine hv_callVI (na := 1) (As := [.int (iI (v + 1))]) (st := []) E (c2_leastFrom l D K (v + 1) (by omega) (by omega) hN) dX5_tellHighParts_25 hN.1 (show vwCl[1]? = some (RX2, TX2, 1) from rfl) gL_X5_54 gV_X2_leastFrom gI_X2_leastFrom gC_X2_leastFrom gZ_X2 (by decide +kernel) rfl ⟨Nat.le_of_ble_eq_true rfl, Nat.le_of_ble_eq_true rfl⟩ (Nat.le_of_ble_eq_true rfl) ⟨Nat.zero_le _, Nat.zero_le _⟩ rfl rfl (fun r w2 hp => ?_)
        obtain ⟨⟨z, p1, p2⟩, p3⟩ := hp
        rw [p2, p3]
        show hm_V p l e (hm_rm 3 0 0) s m args below meth c D (hm_A w s.heap.size) 7 0 0 (MQ below (hm_Qv D w s.heap.size (fun w2 => ∃ g : Nat → Int32, w2 = tM K w t tw g (L + ((HI).length : Nat)) P ∧ tX tf L g (HI))) args s 0 0 (hm_A w s.heap.size)) (tM K w t tw g (L + ((emP (mem f) lo v).length : Nat)) P) 28 [(6, .int (iI (j))), (5, .int (iI (v))), (4, .int (iI (((emH lo v : Nat) : Int)))), (3, .int (iI ((lo : Int)))), (0, .ref (qn)), (1, .int (iI (n))), (2, .ref (t))] [.int (iI (z))]
        obtain ⟨z1, z2, z3, z4, z5, z6⟩ := next_ct (by omega) p1 (by omega) (by omega)
        have es := emP_next (S := mem f) (l := lo) (v := v) (b := z.toNat) vS (by omega) (fun u h1 h2 => z5 u (by omega) h2)
        obtain ⟨ZD, hZD⟩ : ∃ y, y = z.toNat / 2 ^ lo := ⟨_, rfl⟩
        rw [← hZD] at es
        have eh : emH lo v ≤ ZD := by
          rw [hZD]
          unfold emH
          split
          · omega
          · exact Nat.div_le_div_right (by omega)
        have eh4 : ZD ≤ DV := by rw [hZD, hDV]; exact Nat.div_le_div_right (by omega)
        have hm2 := ct_mono (mem f) 0 (show z.toNat + 1 ≤ 4096 by omega)
        refine hv_istore (lv2 := [(5, .int (iI (z))), (6, .int (iI (j))), (4, .int (iI (((emH lo v : Nat) : Int)))), (3, .int (iI ((lo : Int)))), (0, .ref (qn)), (1, .int (iI (n))), (2, .ref (t))]) E dX5_tellHighParts_28 (by decide) rfl rfl ?_
        refine hv_mem (show tM K w t tw g (L + ((emP (mem f) lo v).length : Nat)) P = tM K w t tw g (L + ((emP (mem f) lo v).length : Nat) + ((emH lo v - emH lo v : Nat) : Int)) P from (by rw [Nat.sub_self]; simp)) ?_
        have L2 : ∀ (k : Nat) (h : Nat) (g2 : Nat → Int32), ((ZD : Int) - h < (k : Int)) → (emH lo v ≤ h) → (h ≤ ZD) → (tX tf L g2 (emP (mem f) lo v ++ List.replicate (h - emH lo v) false)) → hm_V p l e (hm_rm 3 0 0) s m args below meth c D (hm_A w s.heap.size) 7 0 0 (MQ below (hm_Qv D w s.heap.size (fun w2 => ∃ g : Nat → Int32, w2 = tM K w t tw g (L + ((HI).length : Nat)) P ∧ tX tf L g (HI))) args s 0 0 (hm_A w s.heap.size)) (tM K w t tw g2 (L + ((emP (mem f) lo v).length : Nat) + ((h - emH lo v : Nat) : Int)) P) 30 [(4, .int (iI ((h : Int)))), (5, .int (iI (z))), (6, .int (iI (j))), (3, .int (iI ((lo : Int)))), (0, .ref (qn)), (1, .int (iI (n))), (2, .ref (t))] [] := by
          intro k
          induction k with
          | zero =>
            intro h g2 hk2 y0 y1 hx2
            exact absurd hk2 (by omega)
          | succ k ih =>
            intro h g2 hk2 y0 y1 hx2
            have hT : tAt K (tM K w t tw g2 (L + ((emP (mem f) lo v).length : Nat) + ((h - emH lo v : Nat) : Int)) P) t tw g2 (L + ((emP (mem f) lo v).length : Nat) + ((h - emH lo v : Nat) : Int)) P := tAt_tM ht.ne
            refine hv_iload E dX5_tellHighParts_30 0 rfl rfl ?_
            refine hv_iload E dX5_tellHighParts_32 1 rfl rfl ?_
            refine hv_iload_n E dX5_tellHighParts_34 rfl 3 rfl rfl ?_
            refine hv_ishrR E dX5_tellHighParts_35 rfl rfl ?_
            refine hv_topi (show (iI (z)) >>> ((iI ((lo : Int))) &&& 31) = iI ((ZD : Int)) from (by rw [hZD]; exact iI_shrN z2 (by omega) lo (by omega))) ?_
            refine hv_icmp_ge E 51 dX5_tellHighParts_36 (by decide) ⟨by omega, by omega⟩ ⟨by omega, by omega⟩ rfl (fun c2 => ?_) (fun c2 => ?_)
            · have eh2 : h = ZD := by omega
              have em2 : emP (mem f) lo z = (emP (mem f) lo v ++ List.replicate (h - emH lo v) false) ++ [true] := by
                unfold emP
                rw [if_neg (show ¬ z < 0 by omega), es, eh2]
                rfl
              have eml : ((emP (mem f) lo z).length : Int) = (emP (mem f) lo v).length + ((h - emH lo v : Nat) : Int) + 1 := by rw [em2, List.length_append, List.length_append, rep_len]; push_cast; rfl
              refine hv_aload_n E dX5_tellHighParts_51 rfl 6 rfl rfl ?_
              refine hv_iconst E dX5_tellHighParts_52 rfl ?_
              refine hv_iconst E dX5_tellHighParts_53 rfl ?_
              refine hv_callVV (na := 2) (As := [.int (iI (1)), .int (iI (1))]) (st := []) E (c4_append l D K (iI (1)) (1) (by omega) (by omega) (by omega) hT (by omega) (by omega)) dX5_tellHighParts_54 hT.1 (show vwCl[3]? = some (RX4, TX4, 3) from rfl) gL_X5_21 gV_X4_append gI_X4_append gC_X4_append gZ_X4 (by decide +kernel) rfl ⟨Nat.le_of_ble_eq_true rfl, Nat.le_of_ble_eq_true rfl⟩ (Nat.le_of_ble_eq_true rfl) ⟨Nat.zero_le _, Nat.zero_le _⟩ rfl rfl (fun w2 hp => ?_)
              obtain ⟨g3, e2, hf2, hf3⟩ := hp
              rw [tM_tM ht.ne] at e2
              rw [e2]
              rw [show (L + ((emP (mem f) lo v).length : Nat) + ((h - emH lo v : Nat) : Int)) + 1 = L + ((emP (mem f) lo z).length : Nat) from (by omega)]
              show hm_V p l e (hm_rm 3 0 0) s m args below meth c D (hm_A w s.heap.size) 7 0 0 (MQ below (hm_Qv D w s.heap.size (fun w2 => ∃ g : Nat → Int32, w2 = tM K w t tw g (L + ((HI).length : Nat)) P ∧ tX tf L g (HI))) args s 0 0 (hm_A w s.heap.size)) (tM K w t tw g3 (L + ((emP (mem f) lo z).length : Nat)) P) 57 [(4, .int (iI ((h : Int)))), (5, .int (iI (z))), (6, .int (iI (j))), (3, .int (iI ((lo : Int)))), (0, .ref (qn)), (1, .int (iI (n))), (2, .ref (t))] []
              have hq := tX.nb (f := g2) (g := g3) (z := 1) (n := 1) (by omega) (by omega) (by omega) (by omega) (by omega) hf2 hf3
              refine hv_iinc (lv2 := [(6, .int (iI (j + 1))), (4, .int (iI ((h : Int)))), (5, .int (iI (z))), (3, .int (iI ((lo : Int)))), (0, .ref (qn)), (1, .int (iI (n))), (2, .ref (t))]) E dX5_tellHighParts_57 2 rfl rfl (by decide) rfl rfl ?_
              refine hv_goto E 14 dX5_tellHighParts_60 (by decide) ?_
              have ehz : h = emH lo z := by unfold emH; rw [if_neg (by omega), ← hZD]; exact eh2
              have hV := ih0 (j + 1) z g3 (by omega) (by omega) (by omega) (by omega) (by omega) (fun _ => z4) (by rw [show (z + 1).toNat = z.toNat + 1 by omega, z6, hj]; rfl) (by
                rw [em2]
                refine hx2.app hL0 ?_
                rw [nb_1] at hq
                rw [show L + ((emP (mem f) lo v ++ List.replicate (h - emH lo v) false).length : Nat) = L + ((emP (mem f) lo v).length : Nat) + ((h - emH lo v : Nat) : Int) by rw [List.length_append, rep_len]; push_cast; omega]
                exact hq)
              rw [← ehz] at hV
              refine hv_sub (lv2 := [(6, .int (iI (j + 1))), (5, .int (iI (z))), (4, .int (iI ((h : Int)))), (3, .int (iI ((lo : Int)))), (0, .ref (qn)), (1, .int (iI (n))), (2, .ref (t))]) [0, 2, 1, 3, 4, 5, 6] rfl ?_
              exact hV
            · refine hv_aload_n E dX5_tellHighParts_39 rfl 6 rfl rfl ?_
              refine hv_iconst E dX5_tellHighParts_40 rfl ?_
              refine hv_iconst E dX5_tellHighParts_41 rfl ?_
              refine hv_callVV (na := 2) (As := [.int (iI (0)), .int (iI (1))]) (st := []) E (c4_append l D K (iI (0)) (1) (by omega) (by omega) (by omega) hT (by omega) (by omega)) dX5_tellHighParts_42 hT.1 (show vwCl[3]? = some (RX4, TX4, 3) from rfl) gL_X5_21 gV_X4_append gI_X4_append gC_X4_append gZ_X4 (by decide +kernel) rfl ⟨Nat.le_of_ble_eq_true rfl, Nat.le_of_ble_eq_true rfl⟩ (Nat.le_of_ble_eq_true rfl) ⟨Nat.zero_le _, Nat.zero_le _⟩ rfl rfl (fun w2 hp => ?_)
              obtain ⟨g3, e2, hf2, hf3⟩ := hp
              rw [tM_tM ht.ne] at e2
              rw [e2]
              rw [show (L + ((emP (mem f) lo v).length : Nat) + ((h - emH lo v : Nat) : Int)) + 1 = L + ((emP (mem f) lo v).length : Nat) + ((h + 1 - emH lo v : Nat) : Int) from (by omega)]
              show hm_V p l e (hm_rm 3 0 0) s m args below meth c D (hm_A w s.heap.size) 7 0 0 (MQ below (hm_Qv D w s.heap.size (fun w2 => ∃ g : Nat → Int32, w2 = tM K w t tw g (L + ((HI).length : Nat)) P ∧ tX tf L g (HI))) args s 0 0 (hm_A w s.heap.size)) (tM K w t tw g3 (L + ((emP (mem f) lo v).length : Nat) + ((h + 1 - emH lo v : Nat) : Int)) P) 45 [(4, .int (iI ((h : Int)))), (5, .int (iI (z))), (6, .int (iI (j))), (3, .int (iI ((lo : Int)))), (0, .ref (qn)), (1, .int (iI (n))), (2, .ref (t))] []
              have hq := tX.nb (f := g2) (g := g3) (z := 0) (n := 1) (by omega) (by omega) (by omega) (by omega) (by omega) hf2 hf3
              refine hv_iinc (lv2 := [(4, .int (iI (((h : Int)) + 1))), (5, .int (iI (z))), (6, .int (iI (j))), (3, .int (iI ((lo : Int)))), (0, .ref (qn)), (1, .int (iI (n))), (2, .ref (t))]) E dX5_tellHighParts_45 0 rfl rfl (by decide) rfl rfl ?_
              refine hv_goto E 30 dX5_tellHighParts_48 (by decide) ?_
              show hm_V p l e (hm_rm 3 0 0) s m args below meth c D (hm_A w s.heap.size) 7 0 0 (MQ below (hm_Qv D w s.heap.size (fun w2 => ∃ g : Nat → Int32, w2 = tM K w t tw g (L + ((HI).length : Nat)) P ∧ tX tf L g (HI))) args s 0 0 (hm_A w s.heap.size)) (tM K w t tw g3 (L + ((emP (mem f) lo v).length : Nat) + ((h + 1 - emH lo v : Nat) : Int)) P) 30 [(4, .int (iI (((h + 1 : Nat) : Int)))), (5, .int (iI (z))), (6, .int (iI (j))), (3, .int (iI ((lo : Int)))), (0, .ref (qn)), (1, .int (iI (n))), (2, .ref (t))] []
              refine hv_sub (lv2 := [(4, .int (iI (((h + 1 : Nat) : Int)))), (5, .int (iI (z))), (6, .int (iI (j))), (3, .int (iI ((lo : Int)))), (0, .ref (qn)), (1, .int (iI (n))), (2, .ref (t))]) [0, 1, 2, 3, 4, 5, 6] rfl ?_
              exact ih (h + 1) g3 (by omega) (by omega) (by omega) (by
                    rw [show h + 1 - emH lo v = h - emH lo v + 1 by omega, ← rep_s, ← List.append_assoc]
                    refine hx2.app hL0 ?_
                    rw [nb_0] at hq
                    rw [show L + ((emP (mem f) lo v ++ List.replicate (h - emH lo v) false).length : Nat) = L + ((emP (mem f) lo v).length : Nat) + ((h - emH lo v : Nat) : Int) by rw [List.length_append, rep_len]; push_cast; omega]
                    exact hq)
        refine hv_sub (lv2 := [(4, .int (iI (((emH lo v : Nat) : Int)))), (5, .int (iI (z))), (6, .int (iI (j))), (3, .int (iI ((lo : Int)))), (0, .ref (qn)), (1, .int (iI (n))), (2, .ref (t))]) [2, 0, 1, 3, 4, 5, 6] rfl ?_
        exact L2 (ZD + 1) (emH lo v) g (by omega) (by omega) (by omega) (by rw [Nat.sub_self]; simpa using hx)
  refine hv_sub (lv2 := [(6, .int (iI (0))), (5, .int (iI ((-1)))), (4, .int (iI (0))), (3, .int (iI ((lo : Int)))), (0, .ref (qn)), (1, .int (iI (n))), (2, .ref (t))]) [0, 1, 2, 3, 4, 5, 6] rfl ?_
  exact LP (n + 1).toNat 0 (-1) tf (by omega) (by omega) (by omega) (by omega) (by omega) (by omega) rfl (by simpa [emP] using tX.nil)
set_option maxHeartbeats 4000000 in
set_option maxRecDepth 100000 in
theorem c5_tell (l : Launch) (D : va_G) (K : Nat → ClassId) {w : hm_M} {a qn wn t tw : Nat} {f tf : Nat → Int32} {P : Int} (hn : nAt K w qn wn f) (ht : tAt K w t tw tf 0 P)  : hm_Cv l D K yX5_tell cX5_tell 4 4 [.ref (a), .ref (qn), .ref (t)] w 0 0 (fun w2 => ∃ g : Nat → Int32, w2 = tM K w t tw g ((cdP (mem f)).length : Nat) P ∧ tX tf 0 g (cdP (mem f))) := by
  refine hm_enterV (by decide) (Nat.le_of_ble_eq_true rfl) ?_
  intro p e s m args below meth c E hr hnm
  show hm_V p l e (hm_rm 4 0 0) s m args below meth c D (hm_A w s.heap.size) 4 0 0 (MQ below (hm_Qv D w s.heap.size (fun w2 => ∃ g : Nat → Int32, w2 = tM K w t tw g ((cdP (mem f)).length : Nat) P ∧ tX tf 0 g (cdP (mem f)))) args s 0 0 (hm_A w s.heap.size)) w 0 [(0, .ref (a)), (1, .ref (qn)), (2, .ref (t))] []
  have hc := ct_le (mem f) 0 4096
  have hle := cdP_le (mem f)
  obtain ⟨CN, hCN⟩ : ∃ z, z = ct (mem f) 0 4096 := ⟨_, rfl⟩
  rw [← hCN] at hc
  refine hv_aload_n E dX5_tell_0 rfl 1 rfl rfl ?_
  refine hv_callVI (na := 0) (As := []) (st := []) E (c2_amount l D K hn) dX5_tell_1 hn.1 (show vwCl[1]? = some (RX2, TX2, 1) from rfl) gL_X5_9 gV_X2_amount gI_X2_amount gC_X2_amount gZ_X2 (by decide +kernel) rfl ⟨Nat.le_of_ble_eq_true rfl, Nat.le_of_ble_eq_true rfl⟩ (Nat.le_of_ble_eq_true rfl) ⟨Nat.zero_le _, Nat.zero_le _⟩ rfl rfl (fun r w2 hp => ?_)
  rw [hp.1, hp.2, ← hCN]
  show hm_V p l e (hm_rm 4 0 0) s m args below meth c D (hm_A w s.heap.size) 4 0 0 (MQ below (hm_Qv D w s.heap.size (fun w2 => ∃ g : Nat → Int32, w2 = tM K w t tw g ((cdP (mem f)).length : Nat) P ∧ tX tf 0 g (cdP (mem f)))) args s 0 0 (hm_A w s.heap.size)) w 4 [(0, .ref (a)), (1, .ref (qn)), (2, .ref (t))] [.int (iI ((CN : Int)))]
  refine hv_istore_n (lv2 := [(3, .int (iI ((CN : Int)))), (0, .ref (a)), (1, .ref (qn)), (2, .ref (t))]) E dX5_tell_4 rfl (by decide) rfl rfl ?_
  refine hv_aload_n E dX5_tell_5 rfl 3 rfl rfl ?_
  refine hv_iload_n E dX5_tell_6 rfl 0 rfl rfl ?_
  refine hv_bipush E dX5_tell_7 (by decide +kernel) rfl ?_
  have hT := ht
  refine hv_callVV (na := 2) (As := [.int (iI ((CN : Int))), .int (iI (13))]) (st := []) E (c4_append l D K (iI (CN : Int)) 13 (by omega) (by omega) (by omega) ht (by omega) (by omega)) dX5_tell_9 ht.1 (show vwCl[3]? = some (RX4, TX4, 3) from rfl) gL_X5_21 gV_X4_append gI_X4_append gC_X4_append gZ_X4 (by decide +kernel) rfl ⟨Nat.le_of_ble_eq_true rfl, Nat.le_of_ble_eq_true rfl⟩ (Nat.le_of_ble_eq_true rfl) ⟨Nat.zero_le _, Nat.zero_le _⟩ rfl rfl (fun w2 hp => ?_)
  obtain ⟨g1, e2, hf2, hf3⟩ := hp
  rw [e2]
  show hm_V p l e (hm_rm 4 0 0) s m args below meth c D (hm_A w s.heap.size) 4 0 0 (MQ below (hm_Qv D w s.heap.size (fun w2 => ∃ g : Nat → Int32, w2 = tM K w t tw g ((cdP (mem f)).length : Nat) P ∧ tX tf 0 g (cdP (mem f)))) args s 0 0 (hm_A w s.heap.size)) (tM K w t tw g1 (0 + 13) P) 12 [(3, .int (iI ((CN : Int)))), (0, .ref (a)), (1, .ref (qn)), (2, .ref (t))] []
  have hq := tX.nb (f := tf) (g := g1) (z := (CN : Int)) (n := 13) (by omega) (by omega) (by omega) (by omega) (by omega) hf2 hf3
  rw [Int.toNat_natCast] at hq
  refine hv_iload_n E dX5_tell_12 rfl 0 rfl rfl ?_
  refine hv_if_le E 28 dX5_tell_13 (by decide) ⟨by omega, by omega⟩ rfl (fun c1 => ?_) (fun c1 => ?_)
  · have hcd : cdP (mem f) = nb CN 13 := by unfold cdP; rw [← hCN, if_pos (by omega)]; simp
    exact hv_vret E dX5_tell_28 hr ⟨g1, by rw [hcd, nb_length]; rfl, by rw [hcd]; exact hq⟩
  · obtain ⟨LO, hLO⟩ : ∃ z, z = loP (mem f) (lw CN) 4096 := ⟨_, rfl⟩
    obtain ⟨HI, hHI⟩ : ∃ z, z = hiP (mem f) (lw CN) 4096 := ⟨_, rfl⟩
    have hcd : cdP (mem f) = nb CN 13 ++ (LO ++ HI) := by unfold cdP; rw [← hCN, if_neg (by omega), hLO, hHI]
    have hcl : (cdP (mem f)).length = 13 + (LO.length + HI.length) := by rw [hcd, List.length_append, List.length_append, nb_length]
    refine hv_aload_n E dX5_tell_16 rfl 2 rfl rfl ?_
    refine hv_iload_n E dX5_tell_17 rfl 0 rfl rfl ?_
    refine hv_aload_n E dX5_tell_18 rfl 3 rfl rfl ?_
    have hT1 : tAt K (tM K w t tw g1 (0 + 13) P) t tw g1 (0 + 13) P := tAt_tM ht.ne
    have hN1 : nAt K (tM K w t tw g1 (0 + 13) P) qn wn f := hn.tm ht
    have C1 := c5_tellLow l D K (CN : Int) (by rw [hCN]) (by omega) (by rw [Int.toNat_natCast, ← hLO]; omega) hN1 hT1 (by omega)
    rw [Int.toNat_natCast, ← hLO] at C1
    refine hv_callSV (na := 3) (As := [.ref (qn), .int (iI ((CN : Int))), .ref (t)]) (st := []) E C1 dX5_tell_19 gL_X5_27 gS_X5_tellLowParts gC_X5_tellLowParts gZ_X5 (by decide +kernel) rfl ⟨Nat.le_of_ble_eq_true rfl, Nat.le_of_ble_eq_true rfl⟩ (Nat.le_of_ble_eq_true rfl) ⟨Nat.zero_le _, Nat.zero_le _⟩ rfl rfl (fun w2 hp => ?_)
    obtain ⟨g2, e3, hq2⟩ := hp
    rw [tM_tM ht.ne] at e3
    rw [e3]
    show hm_V p l e (hm_rm 4 0 0) s m args below meth c D (hm_A w s.heap.size) 4 0 0 (MQ below (hm_Qv D w s.heap.size (fun w2 => ∃ g : Nat → Int32, w2 = tM K w t tw g ((cdP (mem f)).length : Nat) P ∧ tX tf 0 g (cdP (mem f)))) args s 0 0 (hm_A w s.heap.size)) (tM K w t tw g2 (0 + 13 + (LO.length : Nat)) P) 22 [(3, .int (iI ((CN : Int)))), (0, .ref (a)), (1, .ref (qn)), (2, .ref (t))] []
    refine hv_aload_n E dX5_tell_22 rfl 2 rfl rfl ?_
    refine hv_iload_n E dX5_tell_23 rfl 0 rfl rfl ?_
    refine hv_aload_n E dX5_tell_24 rfl 3 rfl rfl ?_
    have hT2 : tAt K (tM K w t tw g2 (0 + 13 + (LO.length : Nat)) P) t tw g2 (0 + 13 + (LO.length : Nat)) P := tAt_tM ht.ne
    have hN2 : nAt K (tM K w t tw g2 (0 + 13 + (LO.length : Nat)) P) qn wn f := hn.tm ht
    have C2 := c5_tellHigh l D K (CN : Int) (by rw [hCN]) (by omega) (by rw [Int.toNat_natCast, ← hHI]; omega) hN2 hT2 (by omega)
    rw [Int.toNat_natCast, ← hHI] at C2
    refine hv_callSV (na := 3) (As := [.ref (qn), .int (iI ((CN : Int))), .ref (t)]) (st := []) E C2 dX5_tell_25 gL_X5_31 gS_X5_tellHighParts gC_X5_tellHighParts gZ_X5 (by decide +kernel) rfl ⟨Nat.le_of_ble_eq_true rfl, Nat.le_of_ble_eq_true rfl⟩ (Nat.le_of_ble_eq_true rfl) ⟨Nat.zero_le _, Nat.zero_le _⟩ rfl rfl (fun w2 hp => ?_)
    obtain ⟨g3, e4, hq3⟩ := hp
    rw [tM_tM ht.ne] at e4
    rw [e4]
    show hm_V p l e (hm_rm 4 0 0) s m args below meth c D (hm_A w s.heap.size) 4 0 0 (MQ below (hm_Qv D w s.heap.size (fun w2 => ∃ g : Nat → Int32, w2 = tM K w t tw g ((cdP (mem f)).length : Nat) P ∧ tX tf 0 g (cdP (mem f)))) args s 0 0 (hm_A w s.heap.size)) (tM K w t tw g3 (0 + 13 + (LO.length : Nat) + (HI.length : Nat)) P) 28 [(3, .int (iI ((CN : Int)))), (0, .ref (a)), (1, .ref (qn)), (2, .ref (t))] []
    exact hv_vret E dX5_tell_28 hr ⟨g3, by rw [show (0 : Int) + 13 + (LO.length : Nat) + (HI.length : Nat) = ((cdP (mem f)).length : Nat) by omega], by
          rw [hcd]
          refine hq.app (by omega) ?_
          rw [nb_length]
          exact hq2.app (by omega) hq3⟩
