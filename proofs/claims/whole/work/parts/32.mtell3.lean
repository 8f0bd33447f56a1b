theorem pcP_one (S : Nat → Bool) {h : Int} (h0 : 0 ≤ h) : pcP S (h + 1).toNat = pcP S h.toNat ++ p1P S h := by
  rw [show (h + 1).toNat = h.toNat + 1 by omega]
  show pcP S h.toNat ++ p1P S ((h.toNat : Nat) : Int) = _
  rw [Int.toNat_of_nonneg h0]
theorem q1P_0 {S : Nat → Bool} {h : Int} (hf : pF S h = 0) : p1P S h = nb 0 2 ++ nb (pN S h - 1).toNat 8 ++ bdP S 0 (256 * h.toNat) 256 := by
  unfold p1P; rw [hf]; simp
theorem q1P_1 {S : Nat → Bool} {h : Int} (hf : pF S h = 1) : p1P S h = nb 1 2 ++ bdP S 1 (256 * h.toNat) 256 := by
  unfold p1P; rw [hf]; simp
theorem q1P_2 {S : Nat → Bool} {h : Int} (hf : pF S h = 2) : p1P S h = nb 2 2 ++ nb (pR S h - 1).toNat 8 ++ bdP S 2 (256 * h.toNat) 256 := by
  unfold p1P; rw [hf]; simp
theorem q1P_3 {S : Nat → Bool} {h : Int} (hf : pF S h = -1) : p1P S h = nb 3 2 := by
  unfold p1P; rw [hf]; simp
theorem bdP_b (S : Nat → Bool) (F : Int) (a : Nat) (hF : F = 0 ∨ F = 1 ∨ F = 2) (i : Nat) : (bdP S F a i).length ≤ 16 * i := by
  rw [bdP_length S F a hF]
  have h1 := ct_le S a i
  have h2 := ct_le (bg S a) 0 i
  split
  · omega
  · split <;> omega
theorem pF_pN {S : Nat → Bool} {h : Int} (hf : pF S h ≠ -1) : 1 ≤ pN S h := by
  have := pN_b S h
  unfold pF pfm at hf
  rcases (show pN S h = 0 ∨ 1 ≤ pN S h by omega) with q | q
  · rw [q] at hf; simp at hf
  · exact q
theorem ct_pos {S : Nat → Bool} {a n : Nat} {i : Nat} (h : i < n) (hs : S (a + i) = true) : 1 ≤ ct S a n := by
  induction n with
  | zero => omega
  | succ n ih =>
    rcases (show i < n ∨ i = n by omega) with q | q
    · have := ih q; show 1 ≤ ct S a n + _; omega
    · subst q; show 1 ≤ ct S a i + _; rw [hs]; simp
theorem ct_ex {S : Nat → Bool} {a n : Nat} (h : 1 ≤ ct S a n) : ∃ i, i < n ∧ S (a + i) = true := by
  induction n with
  | zero => exact absurd h (by simp [ct])
  | succ n ih =>
    by_cases hs : S (a + n) = true
    · exact ⟨n, by omega, hs⟩
    · obtain ⟨i, h1, h2⟩ := ih (by have h3 : 1 ≤ ct S a n + (if S (a + n) then 1 else 0) := h; rw [if_neg hs] at h3; exact h3)
      exact ⟨i, by omega, h2⟩
/-- a run begins where the first number is -/
theorem bg_ex {S : Nat → Bool} {a i : Nat} (hs : S (a + i) = true) : ∃ j, j ≤ i ∧ bg S a j = true := by
  induction i with
  | zero => exact ⟨0, by omega, by unfold bg; rw [hs]; simp⟩
  | succ i ih =>
    by_cases h2 : S (a + i) = true
    · obtain ⟨j, h3, h4⟩ := ih h2; exact ⟨j, by omega, h4⟩
    · exact ⟨i + 1, by omega, by unfold bg; rw [hs, show a + (i + 1) - 1 = a + i by omega]; simp [h2]⟩
theorem pR_1 {S : Nat → Bool} {h : Int} (hn : 1 ≤ pN S h) : 1 ≤ pR S h := by
  unfold pN at hn
  obtain ⟨i, h1, h2⟩ := ct_ex (S := S) (a := 256 * h.toNat) (n := 256) (by omega)
  obtain ⟨j, h3, h4⟩ := bg_ex h2
  have := ct_pos (S := bg S (256 * h.toNat)) (a := 0) (n := 256) (i := j) (by omega) (by rw [Nat.zero_add]; exact h4)
  unfold pR; omega
theorem rlen_le (S : Nat → Bool) (a i k : Nat) : rlen S a i k ≤ k := by
  induction k generalizing i with
  | zero => exact Nat.le_refl _
  | succ k ih => have := ih (i + 1); simp only [rlen]; split <;> omega
theorem rlen_1 {S : Nat → Bool} {a i k : Nat} (hs : S (a + i) = true) (hk : 1 ≤ k) : 1 ≤ rlen S a i k := by
  obtain ⟨k2, rfl⟩ : ∃ k2, k = k2 + 1 := ⟨k - 1, by omega⟩
  simp only [rlen]; rw [if_pos hs]; omega
set_option maxHeartbeats 4000000 in
set_option maxRecDepth 100000 in
theorem c7_lengthOf (l : Launch) (D : va_G) (K : Nat → ClassId) {w : hm_M} {q ia : Nat} {fs : List Value} {I : Nat → Bool} (x : Int) (a i : Nat) (hx0 : 0 ≤ x) (hx1 : x ≤ 8) (ha : a % 256 = 0) (ha1 : a < 4096) (hi : i < 256) (hsi : mS I x (a + i) = true) (hI : mI K w q ia fs I)  : hm_Ci l D K yX7_lengthOf cX7_lengthOf 4 .int 1 [.ref (q), .int (iI (x)), .int (iI (((a + i : Nat) : Int)))] w 0 0 (fun r w2 => r = iI ((rlen (mS I x) a i (256 - i) : Nat) : Int) ∧ w2 = w) := by
  refine hm_enterI (by decide) (Nat.le_of_ble_eq_true rfl) ?_
  intro p e s m args below meth c E hr hnm
  show hm_V p l e (hm_rm 1 0 0) s m args below meth c D (hm_A w s.heap.size) 4 0 0 (MQ below (hm_Qi D w s.heap.size (fun r w2 => r = iI ((rlen (mS I x) a i (256 - i) : Nat) : Int) ∧ w2 = w)) args s 0 0 (hm_A w s.heap.size)) w 0 [(0, .ref (q)), (1, .int (iI (x))), (2, .int (iI (((a + i : Nat) : Int))))] []
  refine hv_iconst E dX7_lengthOf_0 rfl ?_
  refine hv_istore_n (lv2 := [(3, .int (iI (1))), (0, .ref (q)), (1, .int (iI (x))), (2, .int (iI (((a + i : Nat) : Int))))]) E dX7_lengthOf_1 rfl (by decide) rfl rfl ?_
  have LP : ∀ (k : Nat) (n : Nat), ((256 : Int) - n < (k : Int)) → (1 ≤ n) → (i + n ≤ 256) → (n + rlen (mS I x) a (i + n) (256 - (i + n)) = rlen (mS I x) a i (256 - i)) → hm_V p l e (hm_rm 1 0 0) s m args below meth c D (hm_A w s.heap.size) 4 0 0 (MQ below (hm_Qi D w s.heap.size (fun r w2 => r = iI ((rlen (mS I x) a i (256 - i) : Nat) : Int) ∧ w2 = w)) args s 0 0 (hm_A w s.heap.size)) w 2 [(3, .int (iI ((n : Int)))), (0, .ref (q)), (1, .int (iI (x))), (2, .int (iI (((a + i : Nat) : Int))))] [] := by
    intro k
    induction k with
    | zero =>
      intro n hk n0 n1 hn
      exact absurd hk (by omega)
    | succ k ih =>
      intro n hk n0 n1 hn
      refine hv_iload_n E dX7_lengthOf_2 rfl 3 rfl rfl ?_
      refine hv_iload_n E dX7_lengthOf_3 rfl 0 rfl rfl ?_
      refine hv_iadd E dX7_lengthOf_4 rfl ?_
      refine hv_sipush E dX7_lengthOf_5 (by decide +kernel) rfl ?_
      refine hv_iremR E dX7_lengthOf_8 (by decide +kernel) rfl rfl ?_
      refine hv_topi (show (iI ((((a + i : Nat) : Int)) + ((n : Int)))) - (iI ((((a + i : Nat) : Int)) + ((n : Int)))) / (iI (256)) * (iI (256)) = iI (((((a + i : Nat) : Int) + (n : Int)) % 256)) from iI_rem256 (by omega) (by omega)) ?_
      refine hv_if_eq E 29 dX7_lengthOf_9 (by decide) ⟨by omega, by omega⟩ rfl (fun c1 => ?_) (fun c1 => ?_)
      · have h9 : i + n = 256 := by omega
        refine hv_iload_n E dX7_lengthOf_29 rfl 0 rfl rfl ?_
        exact hv_iret E dX7_lengthOf_30 hr ⟨by rw [← hn, h9]; rfl, rfl⟩
      · refine hv_aload_n E dX7_lengthOf_12 rfl 1 rfl rfl ?_
        refine hv_iload_n E dX7_lengthOf_13 rfl 2 rfl rfl ?_
        refine hv_iload_n E dX7_lengthOf_14 rfl 3 rfl rfl ?_
        refine hv_iload_n E dX7_lengthOf_15 rfl 0 rfl rfl ?_
        refine hv_iadd E dX7_lengthOf_16 rfl ?_
        refine hv_callVI (na := 2) (As := [.int (iI (x)), .int (iI ((((a + i : Nat) : Int)) + ((n : Int))))]) (st := []) E (c7_is l D K x (((a + i : Nat) : Int) + (n : Int)) (by omega) (by omega) (by omega) (by omega) hI) dX7_lengthOf_17 hI.1 (show vwCl[6]? = some (RX7, TX7, 7) from rfl) gL_X7_28 gV_X7_is gI_X7_is gC_X7_is gZ_X7 (by decide +kernel) rfl ⟨Nat.le_of_ble_eq_true rfl, Nat.le_of_ble_eq_true rfl⟩ (Nat.le_of_ble_eq_true rfl) ⟨Nat.zero_le _, Nat.zero_le _⟩ rfl rfl (fun r w2 hp => ?_)
        rw [hp.1, hp.2, show (((a + i : Nat) : Int) + (n : Int)).toNat = a + (i + n) by omega]
        show hm_V p l e (hm_rm 1 0 0) s m args below meth c D (hm_A w s.heap.size) 4 0 0 (MQ below (hm_Qi D w s.heap.size (fun r w2 => r = iI ((rlen (mS I x) a i (256 - i) : Nat) : Int) ∧ w2 = w)) args s 0 0 (hm_A w s.heap.size)) w 20 [(3, .int (iI ((n : Int)))), (0, .ref (q)), (1, .int (iI (x))), (2, .int (iI (((a + i : Nat) : Int))))] [.int (bI (mS I x (a + (i + n))))]
        refine hv_if_eqB E 29 dX7_lengthOf_20 (by decide) rfl (fun c2 => ?_) (fun c2 => ?_)
        
        · have h9 : rlen (mS I x) a (i + n) (256 - (i + n)) = 0 := by
            rw [show 256 - (i + n) = (255 - (i + n)) + 1 by omega]; simp only [rlen]; rw [if_neg (by rw [c2]; exact Bool.false_ne_true)]
          refine hv_iload_n E dX7_lengthOf_29 rfl 0 rfl rfl ?_
          exact hv_iret E dX7_lengthOf_30 hr ⟨by rw [← hn, h9]; rfl, rfl⟩
        · have h9 : rlen (mS I x) a (i + n) (256 - (i + n)) = 1 + rlen (mS I x) a (i + (n + 1)) (256 - (i + (n + 1))) := by
            rw [show 256 - (i + n) = (256 - (i + (n + 1))) + 1 by omega]; simp only [rlen]; rw [if_pos c2]; rfl
          refine hv_iinc (lv2 := [(3, .int (iI (((n : Int)) + 1))), (0, .ref (q)), (1, .int (iI (x))), (2, .int (iI (((a + i : Nat) : Int))))]) E dX7_lengthOf_23 0 rfl rfl (by decide) rfl rfl ?_
          refine hv_goto E 2 dX7_lengthOf_26 (by decide) ?_
          show hm_V p l e (hm_rm 1 0 0) s m args below meth c D (hm_A w s.heap.size) 4 0 0 (MQ below (hm_Qi D w s.heap.size (fun r w2 => r = iI ((rlen (mS I x) a i (256 - i) : Nat) : Int) ∧ w2 = w)) args s 0 0 (hm_A w s.heap.size)) w 2 [(3, .int (iI (((n + 1 : Nat) : Int)))), (0, .ref (q)), (1, .int (iI (x))), (2, .int (iI (((a + i : Nat) : Int))))] []
          refine hv_sub (lv2 := [(3, .int (iI (((n + 1 : Nat) : Int)))), (0, .ref (q)), (1, .int (iI (x))), (2, .int (iI (((a + i : Nat) : Int))))]) [0, 1, 2, 3] rfl ?_
          exact ih (n + 1) (by omega) (by omega) (by omega) (by omega)
  show hm_V p l e (hm_rm 1 0 0) s m args below meth c D (hm_A w s.heap.size) 4 0 0 (MQ below (hm_Qi D w s.heap.size (fun r w2 => r = iI ((rlen (mS I x) a i (256 - i) : Nat) : Int) ∧ w2 = w)) args s 0 0 (hm_A w s.heap.size)) w 2 [(3, .int (iI (((1 : Nat) : Int)))), (0, .ref (q)), (1, .int (iI (x))), (2, .int (iI (((a + i : Nat) : Int))))] []
  refine hv_sub (lv2 := [(3, .int (iI (((1 : Nat) : Int)))), (0, .ref (q)), (1, .int (iI (x))), (2, .int (iI (((a + i : Nat) : Int))))]) [0, 1, 2, 3] rfl ?_
  exact LP 256 1 (by omega) (by omega) (by omega) (by
    rw [show 256 - i = (256 - (i + 1)) + 1 by omega]; simp only [rlen]; rw [if_pos hsi])
set_option maxHeartbeats 4000000 in
set_option maxRecDepth 100000 in
theorem c7_tellPieces (l : Launch) (D : va_G) (K : Nat → ClassId) {w : hm_M} {q ia ta : Nat} {I : Nat → Bool} {b md pl : Int} (st : tS) (x : Int) (hx0 : 0 ≤ x) (hx1 : x ≤ 8) (hs0 : st.2.1 = 0) (hm : mAt K w q ia ta I st.1 b md st.2.1 st.2.2 pl) (hb0 : 0 ≤ b) (hb1 : b ≤ 8210) (hmd : 0 ≤ md ∧ md ≤ 2)  : hm_Cv l D K yX7_tellPieces cX7_tellPieces 5 5 [.ref (q), .int (iI (x))] w 0 0 (fun w2 => w2 = mB K w q ia ta I b md pl (tl md b st (cdC (mS I x)))) := by
  refine hm_enterV (by decide) (Nat.le_of_ble_eq_true rfl) ?_
  intro p e s m args below meth c E hr hnm
  show hm_V p l e (hm_rm 5 0 0) s m args below meth c D (hm_A w s.heap.size) 5 0 0 (MQ below (hm_Qv D w s.heap.size (fun w2 => w2 = mB K w q ia ta I b md pl (tl md b st (cdC (mS I x))))) args s 0 0 (hm_A w s.heap.size)) w 0 [(0, .ref (q)), (1, .int (iI (x)))] []
  refine hv_mem (show w = mB K w q ia ta I b md pl (tl md b st (pcP (mS I x) (0 : Int).toNat)) from mM_id hm) ?_
  refine hv_iconst E dX7_tellPieces_0 rfl ?_
  refine hv_istore_n (lv2 := [(2, .int (iI (0))), (0, .ref (q)), (1, .int (iI (x)))]) E dX7_tellPieces_1 rfl (by decide) rfl rfl ?_
  have LP : ∀ (k : Nat) (h : Int), (16 - h < (k : Int)) → (0 ≤ h) → (h ≤ 16) → hm_V p l e (hm_rm 5 0 0) s m args below meth c D (hm_A w s.heap.size) 5 0 0 (MQ below (hm_Qv D w s.heap.size (fun w2 => w2 = mB K w q ia ta I b md pl (tl md b st (cdC (mS I x))))) args s 0 0 (hm_A w s.heap.size)) (mB K w q ia ta I b md pl (tl md b st (pcP (mS I x) h.toNat))) 2 [(2, .int (iI (h))), (0, .ref (q)), (1, .int (iI (x)))] [] := by
    intro k
    induction k with
    | zero =>
      intro h hk g0 g1
      exact absurd hk (by omega)
    | succ k ih =>
      intro h hk g0 g1
      have hM : mAt K (mB K w q ia ta I b md pl (tl md b st (pcP (mS I x) h.toNat))) q ia ta I (tl md b st (pcP (mS I x) h.toNat)).1 b md (tl md b st (pcP (mS I x) h.toNat)).2.1 (tl md b st (pcP (mS I x) h.toNat)).2.2 pl := mAt_mM hm.n1 hm.n2 hm.n3
      have hI : mI K (mB K w q ia ta I b md pl (tl md b st (pcP (mS I x) h.toNat))) q ia _ I := hM.i
      have htd := tl_td md b st (pcP (mS I x) h.toNat)
      try simp only [List.length_append, nb_length, List.length_cons, List.length_nil] at htd
      have hpl := pcP_le (mS I x) h.toNat
      refine hv_iload_n E dX7_tellPieces_2 rfl 0 rfl rfl ?_
      refine hv_bipush E dX7_tellPieces_3 (by decide +kernel) rfl ?_
      refine hv_icmp_ge E 170 dX7_tellPieces_5 (by decide) ⟨by omega, by omega⟩ ⟨by omega, by omega⟩ rfl (fun c1 => ?_) (fun c1 => ?_)
      · exact hv_vret E dX7_tellPieces_170 hr (by rw [show h.toNat = 16 by omega]; rfl)
      · have hps := pcP_one (mS I x) g0
        have hfb := pF_b (mS I x) h
        have hnb := pN_b (mS I x) h
        have hrb := pR_b (mS I x) h
        refine hv_aload_n E dX7_tellPieces_8 rfl 1 rfl rfl ?_
        refine hv_iload_n E dX7_tellPieces_9 rfl 2 rfl rfl ?_
        refine hv_iload_n E dX7_tellPieces_10 rfl 0 rfl rfl ?_
        refine hv_callVI (na := 2) (As := [.int (iI (x)), .int (iI (h))]) (st := []) E (c7_formOf l D K x h (by omega) (by omega) (by omega) (by omega) hI) dX7_tellPieces_11 hI.1 (show vwCl[6]? = some (RX7, TX7, 7) from rfl) gL_X7_56 gV_X7_formOf gI_X7_formOf gC_X7_formOf gZ_X7 (by decide +kernel) rfl ⟨Nat.le_of_ble_eq_true rfl, Nat.le_of_ble_eq_true rfl⟩ (Nat.le_of_ble_eq_true rfl) ⟨Nat.zero_le _, Nat.zero_le _⟩ rfl rfl (fun r w2 hp => ?_)
        obtain ⟨F, hF⟩ : ∃ z, z = (if pF (mS I x) h = -1 then 3 else pF (mS I x) h) := ⟨_, rfl⟩
        rw [← hF] at hp
        rw [hp.1, hp.2]
        show hm_V p l e (hm_rm 5 0 0) s m args below meth c D (hm_A w s.heap.size) 5 0 0 (MQ below (hm_Qv D w s.heap.size (fun w2 => w2 = mB K w q ia ta I b md pl (tl md b st (cdC (mS I x))))) args s 0 0 (hm_A w s.heap.size)) (mB K w q ia ta I b md pl (tl md b st (pcP (mS I x) h.toNat))) 14 [(2, .int (iI (h))), (0, .ref (q)), (1, .int (iI (x)))] [.int (iI (F))]
        have hFc : F = 3 ∧ pF (mS I x) h = -1 ∨ F = 0 ∧ pF (mS I x) h = 0 ∨ F = 1 ∧ pF (mS I x) h = 1 ∨ F = 2 ∧ pF (mS I x) h = 2 := by rw [hF]; split <;> omega
        rcases hFc with ⟨hF2, hf⟩ | ⟨hF2, hf⟩ | ⟨hF2, hf⟩ | ⟨hF2, hf⟩
        · rw [hF2]
          show hm_V p l e (hm_rm 5 0 0) s m args below meth c D (hm_A w s.heap.size) 5 0 0 (MQ below (hm_Qv D w s.heap.size (fun w2 => w2 = mB K w q ia ta I b md pl (tl md b st (cdC (mS I x))))) args s 0 0 (hm_A w s.heap.size)) (mB K w q ia ta I b md pl (tl md b st (pcP (mS I x) h.toNat))) 14 [(2, .int (iI (h))), (0, .ref (q)), (1, .int (iI (x)))] [.int (iI (3))]
          refine hv_istore_n (lv2 := [(3, .int (iI (3))), (2, .int (iI (h))), (0, .ref (q)), (1, .int (iI (x)))]) E dX7_tellPieces_14 rfl (by decide) rfl rfl ?_
          refine hv_aload_n E dX7_tellPieces_15 rfl 2 rfl rfl ?_
          refine hv_iload_n E dX7_tellPieces_16 rfl 0 rfl rfl ?_
          refine hv_iconst E dX7_tellPieces_17 rfl ?_
          refine hv_callVV (na := 2) (As := [.int (iI (3)), .int (iI (2))]) (st := []) E (c7_tellNumber l D K (tl md b st (pcP (mS I x) h.toNat)) (3) (2) (by omega) (by omega) (by omega) (by omega) hM hb0 hb1 hmd (by omega) (by omega) (by omega)) dX7_tellPieces_18 hM.1 (show vwCl[6]? = some (RX7, TX7, 7) from rfl) gL_X7_87 gV_X7_tellNumber gI_X7_tellNumber gC_X7_tellNumber gZ_X7 (by decide +kernel) rfl ⟨Nat.le_of_ble_eq_true rfl, Nat.le_of_ble_eq_true rfl⟩ (Nat.le_of_ble_eq_true rfl) ⟨Nat.zero_le _, Nat.zero_le _⟩ rfl rfl (fun w2 hp => ?_)
          rw [mB_mB hm.n1 hm.n2 hm.n3, tl2] at hp
          rw [hp]
          show hm_V p l e (hm_rm 5 0 0) s m args below meth c D (hm_A w s.heap.size) 5 0 0 (MQ below (hm_Qv D w s.heap.size (fun w2 => w2 = mB K w q ia ta I b md pl (tl md b st (cdC (mS I x))))) args s 0 0 (hm_A w s.heap.size)) (mB K w q ia ta I b md pl (tl md b st (pcP (mS I x) h.toNat ++ nb (3 : Int).toNat (2 : Int).toNat))) 21 [(3, .int (iI (3))), (2, .int (iI (h))), (0, .ref (q)), (1, .int (iI (x)))] []
          rw [show pcP (mS I x) h.toNat ++ nb (3 : Int).toNat (2 : Int).toNat = pcP (mS I x) h.toNat ++ nb 3 2 from rfl]
          show hm_V p l e (hm_rm 5 0 0) s m args below meth c D (hm_A w s.heap.size) 5 0 0 (MQ below (hm_Qv D w s.heap.size (fun w2 => w2 = mB K w q ia ta I b md pl (tl md b st (cdC (mS I x))))) args s 0 0 (hm_A w s.heap.size)) (mB K w q ia ta I b md pl (tl md b st (pcP (mS I x) h.toNat ++ nb 3 2))) 21 [(3, .int (iI (3))), (2, .int (iI (h))), (0, .ref (q)), (1, .int (iI (x)))] []
          clear hM hI htd
          have hM : mAt K (mB K w q ia ta I b md pl (tl md b st (pcP (mS I x) h.toNat ++ nb 3 2))) q ia ta I (tl md b st (pcP (mS I x) h.toNat ++ nb 3 2)).1 b md (tl md b st (pcP (mS I x) h.toNat ++ nb 3 2)).2.1 (tl md b st (pcP (mS I x) h.toNat ++ nb 3 2)).2.2 pl := mAt_mM hm.n1 hm.n2 hm.n3
          have hI : mI K (mB K w q ia ta I b md pl (tl md b st (pcP (mS I x) h.toNat ++ nb 3 2))) q ia _ I := hM.i
          have htd := tl_td md b st (pcP (mS I x) h.toNat ++ nb 3 2)
          try simp only [List.length_append, nb_length, List.length_cons, List.length_nil] at htd
          refine hv_iload_n E dX7_tellPieces_21 rfl 0 rfl rfl ?_
          refine hv_if_ne E 39 dX7_tellPieces_22 (by decide) ⟨by omega, by omega⟩ rfl (fun d1 => ?_) (fun d1 => ?_)
          · refine hv_iload_n E dX7_tellPieces_39 rfl 0 rfl rfl ?_
            refine hv_iconst E dX7_tellPieces_40 rfl ?_
            refine hv_icmp_ne E 58 dX7_tellPieces_41 (by decide) ⟨by omega, by omega⟩ ⟨by omega, by omega⟩ rfl (fun d2 => ?_) (fun d2 => ?_)
            · refine hv_sipush E dX7_tellPieces_58 (by decide +kernel) rfl ?_
              refine hv_iload_n E dX7_tellPieces_61 rfl 1 rfl rfl ?_
              refine hv_imul E dX7_tellPieces_62 rfl ?_
              refine hv_istore (lv2 := [(4, .int (iI (256 * h))), (3, .int (iI (3))), (2, .int (iI (h))), (0, .ref (q)), (1, .int (iI (x)))]) E dX7_tellPieces_63 (by decide) rfl rfl ?_
              refine hv_iload E dX7_tellPieces_65 0 rfl rfl ?_
              refine hv_sipush E dX7_tellPieces_67 (by decide +kernel) rfl ?_
              refine hv_iload_n E dX7_tellPieces_70 rfl 2 rfl rfl ?_
              refine hv_imul E dX7_tellPieces_71 rfl ?_
              refine hv_sipush E dX7_tellPieces_72 (by decide +kernel) rfl ?_
              refine hv_iadd E dX7_tellPieces_75 rfl ?_
              refine hv_icmp_ge E 164 dX7_tellPieces_76 (by decide) ⟨by omega, by omega⟩ ⟨by omega, by omega⟩ rfl (fun d3 => ?_) (fun d3 => ?_)
              · exact absurd d3 (by omega)
              · refine hv_iload_n E dX7_tellPieces_79 rfl 1 rfl rfl ?_
                refine hv_iconst E dX7_tellPieces_80 rfl ?_
                refine hv_icmp_ge E 164 dX7_tellPieces_81 (by decide) ⟨by omega, by omega⟩ ⟨by omega, by omega⟩ rfl (fun d4 => ?_) (fun d4 => ?_)
                · refine hv_iinc (lv2 := [(2, .int (iI (h + 1))), (4, .int (iI (256 * h))), (3, .int (iI (3))), (0, .ref (q)), (1, .int (iI (x)))]) E dX7_tellPieces_164 2 rfl rfl (by decide) rfl rfl ?_
                  refine hv_goto E 2 dX7_tellPieces_167 (by decide) ?_
                  rw [show pcP (mS I x) h.toNat ++ nb 3 2 = pcP (mS I x) (h + 1).toNat from (by rw [hps, q1P_3 hf])]
                  show hm_V p l e (hm_rm 5 0 0) s m args below meth c D (hm_A w s.heap.size) 5 0 0 (MQ below (hm_Qv D w s.heap.size (fun w2 => w2 = mB K w q ia ta I b md pl (tl md b st (cdC (mS I x))))) args s 0 0 (hm_A w s.heap.size)) (mB K w q ia ta I b md pl (tl md b st (pcP (mS I x) (h + 1).toNat))) 2 [(2, .int (iI (h + 1))), (4, .int (iI (256 * h))), (3, .int (iI (3))), (0, .ref (q)), (1, .int (iI (x)))] []
                  refine hv_sub (lv2 := [(2, .int (iI (h + 1))), (0, .ref (q)), (1, .int (iI (x)))]) [0, 3, 4] rfl ?_
                  exact ih (h + 1) (by omega) (by omega) (by omega)
                · exact absurd d4 (by omega)
            · exact absurd d2 (by omega)
          · exact absurd d1 (by omega)
        · rw [hF2]
          show hm_V p l e (hm_rm 5 0 0) s m args below meth c D (hm_A w s.heap.size) 5 0 0 (MQ below (hm_Qv D w s.heap.size (fun w2 => w2 = mB K w q ia ta I b md pl (tl md b st (cdC (mS I x))))) args s 0 0 (hm_A w s.heap.size)) (mB K w q ia ta I b md pl (tl md b st (pcP (mS I x) h.toNat))) 14 [(2, .int (iI (h))), (0, .ref (q)), (1, .int (iI (x)))] [.int (iI (0))]
          refine hv_istore_n (lv2 := [(3, .int (iI (0))), (2, .int (iI (h))), (0, .ref (q)), (1, .int (iI (x)))]) E dX7_tellPieces_14 rfl (by decide) rfl rfl ?_
          refine hv_aload_n E dX7_tellPieces_15 rfl 2 rfl rfl ?_
          refine hv_iload_n E dX7_tellPieces_16 rfl 0 rfl rfl ?_
          refine hv_iconst E dX7_tellPieces_17 rfl ?_
          refine hv_callVV (na := 2) (As := [.int (iI (0)), .int (iI (2))]) (st := []) E (c7_tellNumber l D K (tl md b st (pcP (mS I x) h.toNat)) (0) (2) (by omega) (by omega) (by omega) (by omega) hM hb0 hb1 hmd (by omega) (by omega) (by omega)) dX7_tellPieces_18 hM.1 (show vwCl[6]? = some (RX7, TX7, 7) from rfl) gL_X7_87 gV_X7_tellNumber gI_X7_tellNumber gC_X7_tellNumber gZ_X7 (by decide +kernel) rfl ⟨Nat.le_of_ble_eq_true rfl, Nat.le_of_ble_eq_true rfl⟩ (Nat.le_of_ble_eq_true rfl) ⟨Nat.zero_le _, Nat.zero_le _⟩ rfl rfl (fun w2 hp => ?_)
          rw [mB_mB hm.n1 hm.n2 hm.n3, tl2] at hp
          rw [hp]
          show hm_V p l e (hm_rm 5 0 0) s m args below meth c D (hm_A w s.heap.size) 5 0 0 (MQ below (hm_Qv D w s.heap.size (fun w2 => w2 = mB K w q ia ta I b md pl (tl md b st (cdC (mS I x))))) args s 0 0 (hm_A w s.heap.size)) (mB K w q ia ta I b md pl (tl md b st (pcP (mS I x) h.toNat ++ nb (0 : Int).toNat (2 : Int).toNat))) 21 [(3, .int (iI (0))), (2, .int (iI (h))), (0, .ref (q)), (1, .int (iI (x)))] []
          rw [show pcP (mS I x) h.toNat ++ nb (0 : Int).toNat (2 : Int).toNat = pcP (mS I x) h.toNat ++ nb 0 2 from rfl]
          show hm_V p l e (hm_rm 5 0 0) s m args below meth c D (hm_A w s.heap.size) 5 0 0 (MQ below (hm_Qv D w s.heap.size (fun w2 => w2 = mB K w q ia ta I b md pl (tl md b st (cdC (mS I x))))) args s 0 0 (hm_A w s.heap.size)) (mB K w q ia ta I b md pl (tl md b st (pcP (mS I x) h.toNat ++ nb 0 2))) 21 [(3, .int (iI (0))), (2, .int (iI (h))), (0, .ref (q)), (1, .int (iI (x)))] []
          clear hM hI htd
          have hM : mAt K (mB K w q ia ta I b md pl (tl md b st (pcP (mS I x) h.toNat ++ nb 0 2))) q ia ta I (tl md b st (pcP (mS I x) h.toNat ++ nb 0 2)).1 b md (tl md b st (pcP (mS I x) h.toNat ++ nb 0 2)).2.1 (tl md b st (pcP (mS I x) h.toNat ++ nb 0 2)).2.2 pl := mAt_mM hm.n1 hm.n2 hm.n3
          have hI : mI K (mB K w q ia ta I b md pl (tl md b st (pcP (mS I x) h.toNat ++ nb 0 2))) q ia _ I := hM.i
          have htd := tl_td md b st (pcP (mS I x) h.toNat ++ nb 0 2)
          try simp only [List.length_append, nb_length, List.length_cons, List.length_nil] at htd
          have hp1 := pF_pN (S := (mS I x)) (h := h) (by omega)
          have hr1 := pR_1 hp1
          refine hv_iload_n E dX7_tellPieces_21 rfl 0 rfl rfl ?_
          refine hv_if_ne E 39 dX7_tellPieces_22 (by decide) ⟨by omega, by omega⟩ rfl (fun d5 => ?_) (fun d5 => ?_)
          · exact absurd d5 (by omega)
          · refine hv_aload_n E dX7_tellPieces_25 rfl 2 rfl rfl ?_
            refine hv_aload_n E dX7_tellPieces_26 rfl 2 rfl rfl ?_
            refine hv_iload_n E dX7_tellPieces_27 rfl 3 rfl rfl ?_
            refine hv_iload_n E dX7_tellPieces_28 rfl 1 rfl rfl ?_
            refine hv_callVI (na := 2) (As := [.int (iI (x)), .int (iI (h))]) (st := [.ref (q)]) E (c7_numbersOf l D K x h (by omega) (by omega) (by omega) (by omega) hI) dX7_tellPieces_29 hI.1 (show vwCl[6]? = some (RX7, TX7, 7) from rfl) gL_X7_47 gV_X7_numbersOf gI_X7_numbersOf gC_X7_numbersOf gZ_X7 (by decide +kernel) rfl ⟨Nat.le_of_ble_eq_true rfl, Nat.le_of_ble_eq_true rfl⟩ (Nat.le_of_ble_eq_true rfl) ⟨Nat.zero_le _, Nat.zero_le _⟩ rfl rfl (fun r w2 hp => ?_)
            rw [hp.1, hp.2]
            show hm_V p l e (hm_rm 5 0 0) s m args below meth c D (hm_A w s.heap.size) 5 0 0 (MQ below (hm_Qv D w s.heap.size (fun w2 => w2 = mB K w q ia ta I b md pl (tl md b st (cdC (mS I x))))) args s 0 0 (hm_A w s.heap.size)) (mB K w q ia ta I b md pl (tl md b st (pcP (mS I x) h.toNat ++ nb 0 2))) 32 [(3, .int (iI (0))), (2, .int (iI (h))), (0, .ref (q)), (1, .int (iI (x)))] [.int (iI (pN (mS I x) h)), .ref (q)]
            refine hv_iconst E dX7_tellPieces_32 rfl ?_
            refine hv_isub E dX7_tellPieces_33 rfl ?_
            refine hv_bipush E dX7_tellPieces_34 (by decide +kernel) rfl ?_
            refine hv_callVV (na := 2) (As := [.int (iI ((pN (mS I x) h) - 1)), .int (iI (8))]) (st := []) E (c7_tellNumber l D K (tl md b st (pcP (mS I x) h.toNat ++ nb 0 2)) (pN (mS I x) h - 1) (8) (by omega) (by omega) (by omega) (by omega) hM hb0 hb1 hmd (by omega) (by omega) (by omega)) dX7_tellPieces_36 hM.1 (show vwCl[6]? = some (RX7, TX7, 7) from rfl) gL_X7_87 gV_X7_tellNumber gI_X7_tellNumber gC_X7_tellNumber gZ_X7 (by decide +kernel) rfl ⟨Nat.le_of_ble_eq_true rfl, Nat.le_of_ble_eq_true rfl⟩ (Nat.le_of_ble_eq_true rfl) ⟨Nat.zero_le _, Nat.zero_le _⟩ rfl rfl (fun w2 hp => ?_)
            rw [mB_mB hm.n1 hm.n2 hm.n3, tl2] at hp
            rw [hp]
            show hm_V p l e (hm_rm 5 0 0) s m args below meth c D (hm_A w s.heap.size) 5 0 0 (MQ below (hm_Qv D w s.heap.size (fun w2 => w2 = mB K w q ia ta I b md pl (tl md b st (cdC (mS I x))))) args s 0 0 (hm_A w s.heap.size)) (mB K w q ia ta I b md pl (tl md b st (pcP (mS I x) h.toNat ++ nb 0 2 ++ nb (pN (mS I x) h - 1 : Int).toNat (8 : Int).toNat))) 39 [(3, .int (iI (0))), (2, .int (iI (h))), (0, .ref (q)), (1, .int (iI (x)))] []
            rw [show pcP (mS I x) h.toNat ++ nb 0 2 ++ nb (pN (mS I x) h - 1 : Int).toNat (8 : Int).toNat = pcP (mS I x) h.toNat ++ nb 0 2 ++ nb (pN (mS I x) h - 1).toNat 8 from rfl]
            show hm_V p l e (hm_rm 5 0 0) s m args below meth c D (hm_A w s.heap.size) 5 0 0 (MQ below (hm_Qv D w s.heap.size (fun w2 => w2 = mB K w q ia ta I b md pl (tl md b st (cdC (mS I x))))) args s 0 0 (hm_A w s.heap.size)) (mB K w q ia ta I b md pl (tl md b st (pcP (mS I x) h.toNat ++ nb 0 2 ++ nb (pN (mS I x) h - 1).toNat 8))) 39 [(3, .int (iI (0))), (2, .int (iI (h))), (0, .ref (q)), (1, .int (iI (x)))] []
            clear hM hI htd
            have hM : mAt K (mB K w q ia ta I b md pl (tl md b st (pcP (mS I x) h.toNat ++ nb 0 2 ++ nb (pN (mS I x) h - 1).toNat 8))) q ia ta I (tl md b st (pcP (mS I x) h.toNat ++ nb 0 2 ++ nb (pN (mS I x) h - 1).toNat 8)).1 b md (tl md b st (pcP (mS I x) h.toNat ++ nb 0 2 ++ nb (pN (mS I x) h - 1).toNat 8)).2.1 (tl md b st (pcP (mS I x) h.toNat ++ nb 0 2 ++ nb (pN (mS I x) h - 1).toNat 8)).2.2 pl := mAt_mM hm.n1 hm.n2 hm.n3
            have hI : mI K (mB K w q ia ta I b md pl (tl md b st (pcP (mS I x) h.toNat ++ nb 0 2 ++ nb (pN (mS I x) h - 1).toNat 8))) q ia _ I := hM.i
            have htd := tl_td md b st (pcP (mS I x) h.toNat ++ nb 0 2 ++ nb (pN (mS I x) h - 1).toNat 8)
            try simp only [List.length_append, nb_length, List.length_cons, List.length_nil] at htd
            refine hv_iload_n E dX7_tellPieces_39 rfl 0 rfl rfl ?_
            refine hv_iconst E dX7_tellPieces_40 rfl ?_
            refine hv_icmp_ne E 58 dX7_tellPieces_41 (by decide) ⟨by omega, by omega⟩ ⟨by omega, by omega⟩ rfl (fun d6 => ?_) (fun d6 => ?_)
            · refine hv_sipush E dX7_tellPieces_58 (by decide +kernel) rfl ?_
              refine hv_iload_n E dX7_tellPieces_61 rfl 1 rfl rfl ?_
              refine hv_imul E dX7_tellPieces_62 rfl ?_
              refine hv_istore (lv2 := [(4, .int (iI (256 * h))), (3, .int (iI (0))), (2, .int (iI (h))), (0, .ref (q)), (1, .int (iI (x)))]) E dX7_tellPieces_63 (by decide) rfl rfl ?_
              have ih0 := ih
              rw [show (256 : Int) * h = 256 * h + ((0 : Nat) : Int) by omega]
              show hm_V p l e (hm_rm 5 0 0) s m args below meth c D (hm_A w s.heap.size) 5 0 0 (MQ below (hm_Qv D w s.heap.size (fun w2 => w2 = mB K w q ia ta I b md pl (tl md b st (cdC (mS I x))))) args s 0 0 (hm_A w s.heap.size)) (mB K w q ia ta I b md pl (tl md b st (pcP (mS I x) h.toNat ++ nb 0 2 ++ nb (pN (mS I x) h - 1).toNat 8))) 65 [(4, .int (iI (256 * h + ((0 : Nat) : Int)))), (3, .int (iI (0))), (2, .int (iI (h))), (0, .ref (q)), (1, .int (iI (x)))] []
              rw [show pcP (mS I x) h.toNat ++ nb 0 2 ++ nb (pN (mS I x) h - 1).toNat 8 = pcP (mS I x) h.toNat ++ nb 0 2 ++ nb (pN (mS I x) h - 1).toNat 8 ++ bdP (mS I x) 0 (256 * h.toNat) 0 from (List.append_nil _).symm]
              show hm_V p l e (hm_rm 5 0 0) s m args below meth c D (hm_A w s.heap.size) 5 0 0 (MQ below (hm_Qv D w s.heap.size (fun w2 => w2 = mB K w q ia ta I b md pl (tl md b st (cdC (mS I x))))) args s 0 0 (hm_A w s.heap.size)) (mB K w q ia ta I b md pl (tl md b st (pcP (mS I x) h.toNat ++ nb 0 2 ++ nb (pN (mS I x) h - 1).toNat 8 ++ bdP (mS I x) 0 (256 * h.toNat) 0))) 65 [(4, .int (iI (256 * h + ((0 : Nat) : Int)))), (3, .int (iI (0))), (2, .int (iI (h))), (0, .ref (q)), (1, .int (iI (x)))] []
              have L2 : ∀ (k : Nat) (i : Nat), ((256 : Int) - i < (k : Int)) → (i ≤ 256) → hm_V p l e (hm_rm 5 0 0) s m args below meth c D (hm_A w s.heap.size) 5 0 0 (MQ below (hm_Qv D w s.heap.size (fun w2 => w2 = mB K w q ia ta I b md pl (tl md b st (cdC (mS I x))))) args s 0 0 (hm_A w s.heap.size)) (mB K w q ia ta I b md pl (tl md b st (pcP (mS I x) h.toNat ++ nb 0 2 ++ nb (pN (mS I x) h - 1).toNat 8 ++ bdP (mS I x) 0 (256 * h.toNat) i))) 65 [(4, .int (iI (256 * h + (i : Int)))), (3, .int (iI (0))), (2, .int (iI (h))), (0, .ref (q)), (1, .int (iI (x)))] [] := by
                intro k
                induction k with
                | zero =>
                  intro i hk2 i1
                  exact absurd hk2 (by omega)
                | succ k ih =>
                  intro i hk2 i1
                  clear hM hI htd
                  have hM : mAt K (mB K w q ia ta I b md pl (tl md b st (pcP (mS I x) h.toNat ++ nb 0 2 ++ nb (pN (mS I x) h - 1).toNat 8 ++ bdP (mS I x) 0 (256 * h.toNat) i))) q ia ta I (tl md b st (pcP (mS I x) h.toNat ++ nb 0 2 ++ nb (pN (mS I x) h - 1).toNat 8 ++ bdP (mS I x) 0 (256 * h.toNat) i)).1 b md (tl md b st (pcP (mS I x) h.toNat ++ nb 0 2 ++ nb (pN (mS I x) h - 1).toNat 8 ++ bdP (mS I x) 0 (256 * h.toNat) i)).2.1 (tl md b st (pcP (mS I x) h.toNat ++ nb 0 2 ++ nb (pN (mS I x) h - 1).toNat 8 ++ bdP (mS I x) 0 (256 * h.toNat) i)).2.2 pl := mAt_mM hm.n1 hm.n2 hm.n3
                  have hI : mI K (mB K w q ia ta I b md pl (tl md b st (pcP (mS I x) h.toNat ++ nb 0 2 ++ nb (pN (mS I x) h - 1).toNat 8 ++ bdP (mS I x) 0 (256 * h.toNat) i))) q ia _ I := hM.i
                  have htd := tl_td md b st (pcP (mS I x) h.toNat ++ nb 0 2 ++ nb (pN (mS I x) h - 1).toNat 8 ++ bdP (mS I x) 0 (256 * h.toNat) i)
                  try simp only [List.length_append, nb_length, List.length_cons, List.length_nil] at htd
                  have hbl := bdP_b (mS I x) 0 (256 * h.toNat) (by omega) i
                  have hai : (256 * h + (i : Int)).toNat = 256 * h.toNat + i := by omega
                  refine hv_iload E dX7_tellPieces_65 0 rfl rfl ?_
                  refine hv_sipush E dX7_tellPieces_67 (by decide +kernel) rfl ?_
                  refine hv_iload_n E dX7_tellPieces_70 rfl 2 rfl rfl ?_
                  refine hv_imul E dX7_tellPieces_71 rfl ?_
                  refine hv_sipush E dX7_tellPieces_72 (by decide +kernel) rfl ?_
                  refine hv_iadd E dX7_tellPieces_75 rfl ?_
                  refine hv_icmp_ge E 164 dX7_tellPieces_76 (by decide) ⟨by omega, by omega⟩ ⟨by omega, by omega⟩ rfl (fun c5 => ?_) (fun c5 => ?_)
                  · have h256 : i = 256 := by omega
                    refine hv_iinc (lv2 := [(2, .int (iI (h + 1))), (4, .int (iI (256 * h + (i : Int)))), (3, .int (iI (0))), (0, .ref (q)), (1, .int (iI (x)))]) E dX7_tellPieces_164 2 rfl rfl (by decide) rfl rfl ?_
                    refine hv_goto E 2 dX7_tellPieces_167 (by decide) ?_
                    rw [show pcP (mS I x) h.toNat ++ nb 0 2 ++ nb (pN (mS I x) h - 1).toNat 8 ++ bdP (mS I x) 0 (256 * h.toNat) i = pcP (mS I x) (h + 1).toNat from (by rw [hps, q1P_0 hf, h256]; simp only [List.append_assoc])]
                    show hm_V p l e (hm_rm 5 0 0) s m args below meth c D (hm_A w s.heap.size) 5 0 0 (MQ below (hm_Qv D w s.heap.size (fun w2 => w2 = mB K w q ia ta I b md pl (tl md b st (cdC (mS I x))))) args s 0 0 (hm_A w s.heap.size)) (mB K w q ia ta I b md pl (tl md b st (pcP (mS I x) (h + 1).toNat))) 2 [(2, .int (iI (h + 1))), (4, .int (iI (256 * h + (i : Int)))), (3, .int (iI (0))), (0, .ref (q)), (1, .int (iI (x)))] []
                    refine hv_sub (lv2 := [(2, .int (iI (h + 1))), (0, .ref (q)), (1, .int (iI (x)))]) [0, 3, 4] rfl ?_
                    exact ih0 (h + 1) (by omega) (by omega) (by omega)
                  · refine hv_iload_n E dX7_tellPieces_79 rfl 1 rfl rfl ?_
                    refine hv_iconst E dX7_tellPieces_80 rfl ?_
                    refine hv_icmp_ge E 164 dX7_tellPieces_81 (by decide) ⟨by omega, by omega⟩ ⟨by omega, by omega⟩ rfl (fun d7 => ?_) (fun d7 => ?_)
                    · exact absurd d7 (by omega)
                    · refine hv_iload_n E dX7_tellPieces_84 rfl 1 rfl rfl ?_
                      refine hv_iconst E dX7_tellPieces_85 rfl ?_
                      refine hv_icmp_ne E 103 dX7_tellPieces_86 (by decide) ⟨by omega, by omega⟩ ⟨by omega, by omega⟩ rfl (fun d8 => ?_) (fun d8 => ?_)
                      · refine hv_iload_n E dX7_tellPieces_103 rfl 1 rfl rfl ?_
                        refine hv_if_ne E 120 dX7_tellPieces_104 (by decide) ⟨by omega, by omega⟩ rfl (fun d9 => ?_) (fun d9 => ?_)
                        · exact absurd d9 (by omega)
                        · refine hv_aload_n E dX7_tellPieces_107 rfl 3 rfl rfl ?_
                          refine hv_iload_n E dX7_tellPieces_108 rfl 4 rfl rfl ?_
                          refine hv_iload E dX7_tellPieces_109 0 rfl rfl ?_
                          refine hv_callVI (na := 2) (As := [.int (iI (x)), .int (iI (256 * h + (i : Int)))]) (st := []) E (c7_is l D K x (256 * h + (i : Int)) (by omega) (by omega) (by omega) (by omega) hI) dX7_tellPieces_111 hI.1 (show vwCl[6]? = some (RX7, TX7, 7) from rfl) gL_X7_28 gV_X7_is gI_X7_is gC_X7_is gZ_X7 (by decide +kernel) rfl ⟨Nat.le_of_ble_eq_true rfl, Nat.le_of_ble_eq_true rfl⟩ (Nat.le_of_ble_eq_true rfl) ⟨Nat.zero_le _, Nat.zero_le _⟩ rfl rfl (fun r w2 hp => ?_)
                          rw [hp.1, hp.2, hai]
                          show hm_V p l e (hm_rm 5 0 0) s m args below meth c D (hm_A w s.heap.size) 5 0 0 (MQ below (hm_Qv D w s.heap.size (fun w2 => w2 = mB K w q ia ta I b md pl (tl md b st (cdC (mS I x))))) args s 0 0 (hm_A w s.heap.size)) (mB K w q ia ta I b md pl (tl md b st (pcP (mS I x) h.toNat ++ nb 0 2 ++ nb (pN (mS I x) h - 1).toNat 8 ++ bdP (mS I x) 0 (256 * h.toNat) i))) 114 [(4, .int (iI (256 * h + (i : Int)))), (3, .int (iI (0))), (2, .int (iI (h))), (0, .ref (q)), (1, .int (iI (x)))] [.int (bI (mS I x (256 * h.toNat + i)))]
                          refine hv_if_eqB E 158 dX7_tellPieces_114 (by decide) rfl (fun c6 => ?_) (fun c6 => ?_)
                          · refine hv_iinc (lv2 := [(4, .int (iI ((256 * h + (i : Int)) + 1))), (3, .int (iI (0))), (2, .int (iI (h))), (0, .ref (q)), (1, .int (iI (x)))]) E dX7_tellPieces_158 0 rfl rfl (by decide) rfl rfl ?_
                            refine hv_goto E 65 dX7_tellPieces_161 (by decide) ?_
                            rw [show pcP (mS I x) h.toNat ++ nb 0 2 ++ nb (pN (mS I x) h - 1).toNat 8 ++ bdP (mS I x) 0 (256 * h.toNat) i = pcP (mS I x) h.toNat ++ nb 0 2 ++ nb (pN (mS I x) h - 1).toNat 8 ++ bdP (mS I x) 0 (256 * h.toNat) (i + 1) from (by
                                  show _ = pcP (mS I x) h.toNat ++ nb 0 2 ++ nb (pN (mS I x) h - 1).toNat 8 ++ (bdP (mS I x) 0 (256 * h.toNat) i ++ _)
                                  simp [c6])]
                            show hm_V p l e (hm_rm 5 0 0) s m args below meth c D (hm_A w s.heap.size) 5 0 0 (MQ below (hm_Qv D w s.heap.size (fun w2 => w2 = mB K w q ia ta I b md pl (tl md b st (cdC (mS I x))))) args s 0 0 (hm_A w s.heap.size)) (mB K w q ia ta I b md pl (tl md b st (pcP (mS I x) h.toNat ++ nb 0 2 ++ nb (pN (mS I x) h - 1).toNat 8 ++ bdP (mS I x) 0 (256 * h.toNat) (i + 1)))) 65 [(4, .int (iI ((256 * h + (i : Int)) + 1))), (3, .int (iI (0))), (2, .int (iI (h))), (0, .ref (q)), (1, .int (iI (x)))] []
                            rw [show 256 * h + (i : Int) + 1 = 256 * h + ((i + 1 : Nat) : Int) by omega]
                            show hm_V p l e (hm_rm 5 0 0) s m args below meth c D (hm_A w s.heap.size) 5 0 0 (MQ below (hm_Qv D w s.heap.size (fun w2 => w2 = mB K w q ia ta I b md pl (tl md b st (cdC (mS I x))))) args s 0 0 (hm_A w s.heap.size)) (mB K w q ia ta I b md pl (tl md b st (pcP (mS I x) h.toNat ++ nb 0 2 ++ nb (pN (mS I x) h - 1).toNat 8 ++ bdP (mS I x) 0 (256 * h.toNat) (i + 1)))) 65 [(4, .int (iI (256 * h + ((i + 1 : Nat) : Int)))), (3, .int (iI (0))), (2, .int (iI (h))), (0, .ref (q)), (1, .int (iI (x)))] []
                            refine hv_sub (lv2 := [(4, .int (iI (256 * h + ((i + 1 : Nat) : Int)))), (3, .int (iI (0))), (2, .int (iI (h))), (0, .ref (q)), (1, .int (iI (x)))]) [0, 1, 2, 3, 4] rfl ?_
                            exact ih (i + 1) (by omega) (by omega)
                          · refine hv_goto E 130 dX7_tellPieces_117 (by decide) ?_
                            refine hv_aload_n E dX7_tellPieces_130 rfl 3 rfl rfl ?_
                            refine hv_iload E dX7_tellPieces_131 0 rfl rfl ?_
                            refine hv_bipush E dX7_tellPieces_133 (by decide +kernel) rfl ?_
                            refine hv_callVV (na := 2) (As := [.int (iI (256 * h + (i : Int))), .int (iI (8))]) (st := []) E (c7_tellNumber l D K (tl md b st (pcP (mS I x) h.toNat ++ nb 0 2 ++ nb (pN (mS I x) h - 1).toNat 8 ++ bdP (mS I x) 0 (256 * h.toNat) i)) (256 * h + (i : Int)) (8) (by omega) (by omega) (by omega) (by omega) hM hb0 hb1 hmd (by omega) (by omega) (by omega)) dX7_tellPieces_135 hM.1 (show vwCl[6]? = some (RX7, TX7, 7) from rfl) gL_X7_87 gV_X7_tellNumber gI_X7_tellNumber gC_X7_tellNumber gZ_X7 (by decide +kernel) rfl ⟨Nat.le_of_ble_eq_true rfl, Nat.le_of_ble_eq_true rfl⟩ (Nat.le_of_ble_eq_true rfl) ⟨Nat.zero_le _, Nat.zero_le _⟩ rfl rfl (fun w2 hp => ?_)
                            rw [mB_mB hm.n1 hm.n2 hm.n3, tl2] at hp
                            rw [hp]
                            show hm_V p l e (hm_rm 5 0 0) s m args below meth c D (hm_A w s.heap.size) 5 0 0 (MQ below (hm_Qv D w s.heap.size (fun w2 => w2 = mB K w q ia ta I b md pl (tl md b st (cdC (mS I x))))) args s 0 0 (hm_A w s.heap.size)) (mB K w q ia ta I b md pl (tl md b st (pcP (mS I x) h.toNat ++ nb 0 2 ++ nb (pN (mS I x) h - 1).toNat 8 ++ bdP (mS I x) 0 (256 * h.toNat) i ++ nb (256 * h + (i : Int) : Int).toNat (8 : Int).toNat))) 138 [(4, .int (iI (256 * h + (i : Int)))), (3, .int (iI (0))), (2, .int (iI (h))), (0, .ref (q)), (1, .int (iI (x)))] []
                            refine hv_iload_n E dX7_tellPieces_138 rfl 1 rfl rfl ?_
                            refine hv_iconst E dX7_tellPieces_139 rfl ?_
                            refine hv_icmp_ne E 158 dX7_tellPieces_140 (by decide) ⟨by omega, by omega⟩ ⟨by omega, by omega⟩ rfl (fun d10 => ?_) (fun d10 => ?_)
                            · refine hv_iinc (lv2 := [(4, .int (iI ((256 * h + (i : Int)) + 1))), (3, .int (iI (0))), (2, .int (iI (h))), (0, .ref (q)), (1, .int (iI (x)))]) E dX7_tellPieces_158 0 rfl rfl (by decide) rfl rfl ?_
                              refine hv_goto E 65 dX7_tellPieces_161 (by decide) ?_
                              rw [show pcP (mS I x) h.toNat ++ nb 0 2 ++ nb (pN (mS I x) h - 1).toNat 8 ++ bdP (mS I x) 0 (256 * h.toNat) i ++ nb (256 * h + (i : Int) : Int).toNat (8 : Int).toNat = pcP (mS I x) h.toNat ++ nb 0 2 ++ nb (pN (mS I x) h - 1).toNat 8 ++ bdP (mS I x) 0 (256 * h.toNat) (i + 1) from (by
                                    show _ = pcP (mS I x) h.toNat ++ nb 0 2 ++ nb (pN (mS I x) h - 1).toNat 8 ++ (bdP (mS I x) 0 (256 * h.toNat) i ++ _)
                                    rw [hai]; simp [c6])]
                              show hm_V p l e (hm_rm 5 0 0) s m args below meth c D (hm_A w s.heap.size) 5 0 0 (MQ below (hm_Qv D w s.heap.size (fun w2 => w2 = mB K w q ia ta I b md pl (tl md b st (cdC (mS I x))))) args s 0 0 (hm_A w s.heap.size)) (mB K w q ia ta I b md pl (tl md b st (pcP (mS I x) h.toNat ++ nb 0 2 ++ nb (pN (mS I x) h - 1).toNat 8 ++ bdP (mS I x) 0 (256 * h.toNat) (i + 1)))) 65 [(4, .int (iI ((256 * h + (i : Int)) + 1))), (3, .int (iI (0))), (2, .int (iI (h))), (0, .ref (q)), (1, .int (iI (x)))] []
                              rw [show 256 * h + (i : Int) + 1 = 256 * h + ((i + 1 : Nat) : Int) by omega]
                              show hm_V p l e (hm_rm 5 0 0) s m args below meth c D (hm_A w s.heap.size) 5 0 0 (MQ below (hm_Qv D w s.heap.size (fun w2 => w2 = mB K w q ia ta I b md pl (tl md b st (cdC (mS I x))))) args s 0 0 (hm_A w s.heap.size)) (mB K w q ia ta I b md pl (tl md b st (pcP (mS I x) h.toNat ++ nb 0 2 ++ nb (pN (mS I x) h - 1).toNat 8 ++ bdP (mS I x) 0 (256 * h.toNat) (i + 1)))) 65 [(4, .int (iI (256 * h + ((i + 1 : Nat) : Int)))), (3, .int (iI (0))), (2, .int (iI (h))), (0, .ref (q)), (1, .int (iI (x)))] []
                              refine hv_sub (lv2 := [(4, .int (iI (256 * h + ((i + 1 : Nat) : Int)))), (3, .int (iI (0))), (2, .int (iI (h))), (0, .ref (q)), (1, .int (iI (x)))]) [0, 1, 2, 3, 4] rfl ?_
                              exact ih (i + 1) (by omega) (by omega)
                            · exact absurd d10 (by omega)
                      · exact absurd d8 (by omega)
              refine hv_sub (lv2 := [(4, .int (iI (256 * h + ((0 : Nat) : Int)))), (3, .int (iI (0))), (2, .int (iI (h))), (0, .ref (q)), (1, .int (iI (x)))]) [0, 1, 2, 3, 4] rfl ?_
              exact L2 257 0 (by omega) (by omega)
            · exact absurd d6 (by omega)
        · rw [hF2]
          show hm_V p l e (hm_rm 5 0 0) s m args below meth c D (hm_A w s.heap.size) 5 0 0 (MQ below (hm_Qv D w s.heap.size (fun w2 => w2 = mB K w q ia ta I b md pl (tl md b st (cdC (mS I x))))) args s 0 0 (hm_A w s.heap.size)) (mB K w q ia ta I b md pl (tl md b st (pcP (mS I x) h.toNat))) 14 [(2, .int (iI (h))), (0, .ref (q)), (1, .int (iI (x)))] [.int (iI (1))]
          refine hv_istore_n (lv2 := [(3, .int (iI (1))), (2, .int (iI (h))), (0, .ref (q)), (1, .int (iI (x)))]) E dX7_tellPieces_14 rfl (by decide) rfl rfl ?_
          refine hv_aload_n E dX7_tellPieces_15 rfl 2 rfl rfl ?_
          refine hv_iload_n E dX7_tellPieces_16 rfl 0 rfl rfl ?_
          refine hv_iconst E dX7_tellPieces_17 rfl ?_
          refine hv_callVV (na := 2) (As := [.int (iI (1)), .int (iI (2))]) (st := []) E (c7_tellNumber l D K (tl md b st (pcP (mS I x) h.toNat)) (1) (2) (by omega) (by omega) (by omega) (by omega) hM hb0 hb1 hmd (by omega) (by omega) (by omega)) dX7_tellPieces_18 hM.1 (show vwCl[6]? = some (RX7, TX7, 7) from rfl) gL_X7_87 gV_X7_tellNumber gI_X7_tellNumber gC_X7_tellNumber gZ_X7 (by decide +kernel) rfl ⟨Nat.le_of_ble_eq_true rfl, Nat.le_of_ble_eq_true rfl⟩ (Nat.le_of_ble_eq_true rfl) ⟨Nat.zero_le _, Nat.zero_le _⟩ rfl rfl (fun w2 hp => ?_)
          rw [mB_mB hm.n1 hm.n2 hm.n3, tl2] at hp
          rw [hp]
          show hm_V p l e (hm_rm 5 0 0) s m args below meth c D (hm_A w s.heap.size) 5 0 0 (MQ below (hm_Qv D w s.heap.size (fun w2 => w2 = mB K w q ia ta I b md pl (tl md b st (cdC (mS I x))))) args s 0 0 (hm_A w s.heap.size)) (mB K w q ia ta I b md pl (tl md b st (pcP (mS I x) h.toNat ++ nb (1 : Int).toNat (2 : Int).toNat))) 21 [(3, .int (iI (1))), (2, .int (iI (h))), (0, .ref (q)), (1, .int (iI (x)))] []
          rw [show pcP (mS I x) h.toNat ++ nb (1 : Int).toNat (2 : Int).toNat = pcP (mS I x) h.toNat ++ nb 1 2 from rfl]
          show hm_V p l e (hm_rm 5 0 0) s m args below meth c D (hm_A w s.heap.size) 5 0 0 (MQ below (hm_Qv D w s.heap.size (fun w2 => w2 = mB K w q ia ta I b md pl (tl md b st (cdC (mS I x))))) args s 0 0 (hm_A w s.heap.size)) (mB K w q ia ta I b md pl (tl md b st (pcP (mS I x) h.toNat ++ nb 1 2))) 21 [(3, .int (iI (1))), (2, .int (iI (h))), (0, .ref (q)), (1, .int (iI (x)))] []
          clear hM hI htd
          have hM : mAt K (mB K w q ia ta I b md pl (tl md b st (pcP (mS I x) h.toNat ++ nb 1 2))) q ia ta I (tl md b st (pcP (mS I x) h.toNat ++ nb 1 2)).1 b md (tl md b st (pcP (mS I x) h.toNat ++ nb 1 2)).2.1 (tl md b st (pcP (mS I x) h.toNat ++ nb 1 2)).2.2 pl := mAt_mM hm.n1 hm.n2 hm.n3
          have hI : mI K (mB K w q ia ta I b md pl (tl md b st (pcP (mS I x) h.toNat ++ nb 1 2))) q ia _ I := hM.i
          have htd := tl_td md b st (pcP (mS I x) h.toNat ++ nb 1 2)
          try simp only [List.length_append, nb_length, List.length_cons, List.length_nil] at htd
          refine hv_iload_n E dX7_tellPieces_21 rfl 0 rfl rfl ?_
          refine hv_if_ne E 39 dX7_tellPieces_22 (by decide) ⟨by omega, by omega⟩ rfl (fun d11 => ?_) (fun d11 => ?_)
          · refine hv_iload_n E dX7_tellPieces_39 rfl 0 rfl rfl ?_
            refine hv_iconst E dX7_tellPieces_40 rfl ?_
            refine hv_icmp_ne E 58 dX7_tellPieces_41 (by decide) ⟨by omega, by omega⟩ ⟨by omega, by omega⟩ rfl (fun d12 => ?_) (fun d12 => ?_)
            · refine hv_sipush E dX7_tellPieces_58 (by decide +kernel) rfl ?_
              refine hv_iload_n E dX7_tellPieces_61 rfl 1 rfl rfl ?_
              refine hv_imul E dX7_tellPieces_62 rfl ?_
              refine hv_istore (lv2 := [(4, .int (iI (256 * h))), (3, .int (iI (1))), (2, .int (iI (h))), (0, .ref (q)), (1, .int (iI (x)))]) E dX7_tellPieces_63 (by decide) rfl rfl ?_
              have ih0 := ih
              rw [show (256 : Int) * h = 256 * h + ((0 : Nat) : Int) by omega]
              show hm_V p l e (hm_rm 5 0 0) s m args below meth c D (hm_A w s.heap.size) 5 0 0 (MQ below (hm_Qv D w s.heap.size (fun w2 => w2 = mB K w q ia ta I b md pl (tl md b st (cdC (mS I x))))) args s 0 0 (hm_A w s.heap.size)) (mB K w q ia ta I b md pl (tl md b st (pcP (mS I x) h.toNat ++ nb 1 2))) 65 [(4, .int (iI (256 * h + ((0 : Nat) : Int)))), (3, .int (iI (1))), (2, .int (iI (h))), (0, .ref (q)), (1, .int (iI (x)))] []
              rw [show pcP (mS I x) h.toNat ++ nb 1 2 = pcP (mS I x) h.toNat ++ nb 1 2 ++ bdP (mS I x) 1 (256 * h.toNat) 0 from (List.append_nil _).symm]
              show hm_V p l e (hm_rm 5 0 0) s m args below meth c D (hm_A w s.heap.size) 5 0 0 (MQ below (hm_Qv D w s.heap.size (fun w2 => w2 = mB K w q ia ta I b md pl (tl md b st (cdC (mS I x))))) args s 0 0 (hm_A w s.heap.size)) (mB K w q ia ta I b md pl (tl md b st (pcP (mS I x) h.toNat ++ nb 1 2 ++ bdP (mS I x) 1 (256 * h.toNat) 0))) 65 [(4, .int (iI (256 * h + ((0 : Nat) : Int)))), (3, .int (iI (1))), (2, .int (iI (h))), (0, .ref (q)), (1, .int (iI (x)))] []
              have L2 : ∀ (k : Nat) (i : Nat), ((256 : Int) - i < (k : Int)) → (i ≤ 256) → hm_V p l e (hm_rm 5 0 0) s m args below meth c D (hm_A w s.heap.size) 5 0 0 (MQ below (hm_Qv D w s.heap.size (fun w2 => w2 = mB K w q ia ta I b md pl (tl md b st (cdC (mS I x))))) args s 0 0 (hm_A w s.heap.size)) (mB K w q ia ta I b md pl (tl md b st (pcP (mS I x) h.toNat ++ nb 1 2 ++ bdP (mS I x) 1 (256 * h.toNat) i))) 65 [(4, .int (iI (256 * h + (i : Int)))), (3, .int (iI (1))), (2, .int (iI (h))), (0, .ref (q)), (1, .int (iI (x)))] [] := by
                intro k
                induction k with
                | zero =>
                  intro i hk2 i1
                  exact absurd hk2 (by omega)
                | succ k ih =>
                  intro i hk2 i1
                  clear hM hI htd
                  have hM : mAt K (mB K w q ia ta I b md pl (tl md b st (pcP (mS I x) h.toNat ++ nb 1 2 ++ bdP (mS I x) 1 (256 * h.toNat) i))) q ia ta I (tl md b st (pcP (mS I x) h.toNat ++ nb 1 2 ++ bdP (mS I x) 1 (256 * h.toNat) i)).1 b md (tl md b st (pcP (mS I x) h.toNat ++ nb 1 2 ++ bdP (mS I x) 1 (256 * h.toNat) i)).2.1 (tl md b st (pcP (mS I x) h.toNat ++ nb 1 2 ++ bdP (mS I x) 1 (256 * h.toNat) i)).2.2 pl := mAt_mM hm.n1 hm.n2 hm.n3
                  have hI : mI K (mB K w q ia ta I b md pl (tl md b st (pcP (mS I x) h.toNat ++ nb 1 2 ++ bdP (mS I x) 1 (256 * h.toNat) i))) q ia _ I := hM.i
                  have htd := tl_td md b st (pcP (mS I x) h.toNat ++ nb 1 2 ++ bdP (mS I x) 1 (256 * h.toNat) i)
                  try simp only [List.length_append, nb_length, List.length_cons, List.length_nil] at htd
                  have hbl := bdP_b (mS I x) 1 (256 * h.toNat) (by omega) i
                  have hai : (256 * h + (i : Int)).toNat = 256 * h.toNat + i := by omega
                  refine hv_iload E dX7_tellPieces_65 0 rfl rfl ?_
                  refine hv_sipush E dX7_tellPieces_67 (by decide +kernel) rfl ?_
                  refine hv_iload_n E dX7_tellPieces_70 rfl 2 rfl rfl ?_
                  refine hv_imul E dX7_tellPieces_71 rfl ?_
                  refine hv_sipush E dX7_tellPieces_72 (by decide +kernel) rfl ?_
                  refine hv_iadd E dX7_tellPieces_75 rfl ?_
                  refine hv_icmp_ge E 164 dX7_tellPieces_76 (by decide) ⟨by omega, by omega⟩ ⟨by omega, by omega⟩ rfl (fun c5 => ?_) (fun c5 => ?_)
                  · have h256 : i = 256 := by omega
                    refine hv_iinc (lv2 := [(2, .int (iI (h + 1))), (4, .int (iI (256 * h + (i : Int)))), (3, .int (iI (1))), (0, .ref (q)), (1, .int (iI (x)))]) E dX7_tellPieces_164 2 rfl rfl (by decide) rfl rfl ?_
                    refine hv_goto E 2 dX7_tellPieces_167 (by decide) ?_
                    rw [show pcP (mS I x) h.toNat ++ nb 1 2 ++ bdP (mS I x) 1 (256 * h.toNat) i = pcP (mS I x) (h + 1).toNat from (by rw [hps, q1P_1 hf, h256]; simp only [List.append_assoc])]
                    show hm_V p l e (hm_rm 5 0 0) s m args below meth c D (hm_A w s.heap.size) 5 0 0 (MQ below (hm_Qv D w s.heap.size (fun w2 => w2 = mB K w q ia ta I b md pl (tl md b st (cdC (mS I x))))) args s 0 0 (hm_A w s.heap.size)) (mB K w q ia ta I b md pl (tl md b st (pcP (mS I x) (h + 1).toNat))) 2 [(2, .int (iI (h + 1))), (4, .int (iI (256 * h + (i : Int)))), (3, .int (iI (1))), (0, .ref (q)), (1, .int (iI (x)))] []
                    refine hv_sub (lv2 := [(2, .int (iI (h + 1))), (0, .ref (q)), (1, .int (iI (x)))]) [0, 3, 4] rfl ?_
                    exact ih0 (h + 1) (by omega) (by omega) (by omega)
                  · refine hv_iload_n E dX7_tellPieces_79 rfl 1 rfl rfl ?_
                    refine hv_iconst E dX7_tellPieces_80 rfl ?_
                    refine hv_icmp_ge E 164 dX7_tellPieces_81 (by decide) ⟨by omega, by omega⟩ ⟨by omega, by omega⟩ rfl (fun d13 => ?_) (fun d13 => ?_)
                    · exact absurd d13 (by omega)
                    · refine hv_iload_n E dX7_tellPieces_84 rfl 1 rfl rfl ?_
                      refine hv_iconst E dX7_tellPieces_85 rfl ?_
                      refine hv_icmp_ne E 103 dX7_tellPieces_86 (by decide) ⟨by omega, by omega⟩ ⟨by omega, by omega⟩ rfl (fun d14 => ?_) (fun d14 => ?_)
                      · exact absurd d14 (by omega)
                      · refine hv_aload_n E dX7_tellPieces_89 rfl 3 rfl rfl ?_
                        refine hv_aload_n E dX7_tellPieces_90 rfl 3 rfl rfl ?_
                        refine hv_iload_n E dX7_tellPieces_91 rfl 4 rfl rfl ?_
                        refine hv_iload E dX7_tellPieces_92 0 rfl rfl ?_
                        refine hv_callVI (na := 2) (As := [.int (iI (x)), .int (iI (256 * h + (i : Int)))]) (st := [.ref (q)]) E (c7_is l D K x (256 * h + (i : Int)) (by omega) (by omega) (by omega) (by omega) hI) dX7_tellPieces_94 hI.1 (show vwCl[6]? = some (RX7, TX7, 7) from rfl) gL_X7_28 gV_X7_is gI_X7_is gC_X7_is gZ_X7 (by decide +kernel) rfl ⟨Nat.le_of_ble_eq_true rfl, Nat.le_of_ble_eq_true rfl⟩ (Nat.le_of_ble_eq_true rfl) ⟨Nat.zero_le _, Nat.zero_le _⟩ rfl rfl (fun r w2 hp => ?_)
                        rw [hp.1, hp.2, hai]
                        show hm_V p l e (hm_rm 5 0 0) s m args below meth c D (hm_A w s.heap.size) 5 0 0 (MQ below (hm_Qv D w s.heap.size (fun w2 => w2 = mB K w q ia ta I b md pl (tl md b st (cdC (mS I x))))) args s 0 0 (hm_A w s.heap.size)) (mB K w q ia ta I b md pl (tl md b st (pcP (mS I x) h.toNat ++ nb 1 2 ++ bdP (mS I x) 1 (256 * h.toNat) i))) 97 [(4, .int (iI (256 * h + (i : Int)))), (3, .int (iI (1))), (2, .int (iI (h))), (0, .ref (q)), (1, .int (iI (x)))] [.int (bI (mS I x (256 * h.toNat + i))), .ref (q)]
                        refine hv_callVV (na := 1) (As := [.int (bI (mS I x (256 * h.toNat + i)))]) (st := []) E (c7_tell l D K (tl md b st (pcP (mS I x) h.toNat ++ nb 1 2 ++ bdP (mS I x) 1 (256 * h.toNat) i)) (mS I x (256 * h.toNat + i)) hM hb0 hb1 hmd (by omega) (by omega) (by omega)) dX7_tellPieces_97 hM.1 (show vwCl[6]? = some (RX7, TX7, 7) from rfl) gL_X7_73 gV_X7_tell gI_X7_tell gC_X7_tell gZ_X7 (by decide +kernel) rfl ⟨Nat.le_of_ble_eq_true rfl, Nat.le_of_ble_eq_true rfl⟩ (Nat.le_of_ble_eq_true rfl) ⟨Nat.zero_le _, Nat.zero_le _⟩ rfl rfl (fun w2 hp => ?_)
                        rw [mB_mB hm.n1 hm.n2 hm.n3, t1l] at hp
                        rw [hp]
                        show hm_V p l e (hm_rm 5 0 0) s m args below meth c D (hm_A w s.heap.size) 5 0 0 (MQ below (hm_Qv D w s.heap.size (fun w2 => w2 = mB K w q ia ta I b md pl (tl md b st (cdC (mS I x))))) args s 0 0 (hm_A w s.heap.size)) (mB K w q ia ta I b md pl (tl md b st (pcP (mS I x) h.toNat ++ nb 1 2 ++ bdP (mS I x) 1 (256 * h.toNat) i ++ [mS I x (256 * h.toNat + i)]))) 100 [(4, .int (iI (256 * h + (i : Int)))), (3, .int (iI (1))), (2, .int (iI (h))), (0, .ref (q)), (1, .int (iI (x)))] []
                        refine hv_goto E 158 dX7_tellPieces_100 (by decide) ?_
                        refine hv_iinc (lv2 := [(4, .int (iI ((256 * h + (i : Int)) + 1))), (3, .int (iI (1))), (2, .int (iI (h))), (0, .ref (q)), (1, .int (iI (x)))]) E dX7_tellPieces_158 0 rfl rfl (by decide) rfl rfl ?_
                        refine hv_goto E 65 dX7_tellPieces_161 (by decide) ?_
                        rw [show pcP (mS I x) h.toNat ++ nb 1 2 ++ bdP (mS I x) 1 (256 * h.toNat) i ++ [mS I x (256 * h.toNat + i)] = pcP (mS I x) h.toNat ++ nb 1 2 ++ bdP (mS I x) 1 (256 * h.toNat) (i + 1) from (by
                              show _ = pcP (mS I x) h.toNat ++ nb 1 2 ++ (bdP (mS I x) 1 (256 * h.toNat) i ++ _)
                              rw [List.append_assoc, List.append_assoc]; simp)]
                        show hm_V p l e (hm_rm 5 0 0) s m args below meth c D (hm_A w s.heap.size) 5 0 0 (MQ below (hm_Qv D w s.heap.size (fun w2 => w2 = mB K w q ia ta I b md pl (tl md b st (cdC (mS I x))))) args s 0 0 (hm_A w s.heap.size)) (mB K w q ia ta I b md pl (tl md b st (pcP (mS I x) h.toNat ++ nb 1 2 ++ bdP (mS I x) 1 (256 * h.toNat) (i + 1)))) 65 [(4, .int (iI ((256 * h + (i : Int)) + 1))), (3, .int (iI (1))), (2, .int (iI (h))), (0, .ref (q)), (1, .int (iI (x)))] []
                        rw [show 256 * h + (i : Int) + 1 = 256 * h + ((i + 1 : Nat) : Int) by omega]
                        show hm_V p l e (hm_rm 5 0 0) s m args below meth c D (hm_A w s.heap.size) 5 0 0 (MQ below (hm_Qv D w s.heap.size (fun w2 => w2 = mB K w q ia ta I b md pl (tl md b st (cdC (mS I x))))) args s 0 0 (hm_A w s.heap.size)) (mB K w q ia ta I b md pl (tl md b st (pcP (mS I x) h.toNat ++ nb 1 2 ++ bdP (mS I x) 1 (256 * h.toNat) (i + 1)))) 65 [(4, .int (iI (256 * h + ((i + 1 : Nat) : Int)))), (3, .int (iI (1))), (2, .int (iI (h))), (0, .ref (q)), (1, .int (iI (x)))] []
                        refine hv_sub (lv2 := [(4, .int (iI (256 * h + ((i + 1 : Nat) : Int)))), (3, .int (iI (1))), (2, .int (iI (h))), (0, .ref (q)), (1, .int (iI (x)))]) [0, 1, 2, 3, 4] rfl ?_
                        exact ih (i + 1) (by omega) (by omega)
              refine hv_sub (lv2 := [(4, .int (iI (256 * h + ((0 : Nat) : Int)))), (3, .int (iI (1))), (2, .int (iI (h))), (0, .ref (q)), (1, .int (iI (x)))]) [0, 1, 2, 3, 4] rfl ?_
              exact L2 257 0 (by omega) (by omega)
            · exact absurd d12 (by omega)
          · exact absurd d11 (by omega)
        · rw [hF2]
          show hm_V p l e (hm_rm 5 0 0) s m args below meth c D (hm_A w s.heap.size) 5 0 0 (MQ below (hm_Qv D w s.heap.size (fun w2 => w2 = mB K w q ia ta I b md pl (tl md b st (cdC (mS I x))))) args s 0 0 (hm_A w s.heap.size)) (mB K w q ia ta I b md pl (tl md b st (pcP (mS I x) h.toNat))) 14 [(2, .int (iI (h))), (0, .ref (q)), (1, .int (iI (x)))] [.int (iI (2))]
          refine hv_istore_n (lv2 := [(3, .int (iI (2))), (2, .int (iI (h))), (0, .ref (q)), (1, .int (iI (x)))]) E dX7_tellPieces_14 rfl (by decide) rfl rfl ?_
          refine hv_aload_n E dX7_tellPieces_15 rfl 2 rfl rfl ?_
          refine hv_iload_n E dX7_tellPieces_16 rfl 0 rfl rfl ?_
          refine hv_iconst E dX7_tellPieces_17 rfl ?_
          refine hv_callVV (na := 2) (As := [.int (iI (2)), .int (iI (2))]) (st := []) E (c7_tellNumber l D K (tl md b st (pcP (mS I x) h.toNat)) (2) (2) (by omega) (by omega) (by omega) (by omega) hM hb0 hb1 hmd (by omega) (by omega) (by omega)) dX7_tellPieces_18 hM.1 (show vwCl[6]? = some (RX7, TX7, 7) from rfl) gL_X7_87 gV_X7_tellNumber gI_X7_tellNumber gC_X7_tellNumber gZ_X7 (by decide +kernel) rfl ⟨Nat.le_of_ble_eq_true rfl, Nat.le_of_ble_eq_true rfl⟩ (Nat.le_of_ble_eq_true rfl) ⟨Nat.zero_le _, Nat.zero_le _⟩ rfl rfl (fun w2 hp => ?_)
          rw [mB_mB hm.n1 hm.n2 hm.n3, tl2] at hp
          rw [hp]
          show hm_V p l e (hm_rm 5 0 0) s m args below meth c D (hm_A w s.heap.size) 5 0 0 (MQ below (hm_Qv D w s.heap.size (fun w2 => w2 = mB K w q ia ta I b md pl (tl md b st (cdC (mS I x))))) args s 0 0 (hm_A w s.heap.size)) (mB K w q ia ta I b md pl (tl md b st (pcP (mS I x) h.toNat ++ nb (2 : Int).toNat (2 : Int).toNat))) 21 [(3, .int (iI (2))), (2, .int (iI (h))), (0, .ref (q)), (1, .int (iI (x)))] []
          rw [show pcP (mS I x) h.toNat ++ nb (2 : Int).toNat (2 : Int).toNat = pcP (mS I x) h.toNat ++ nb 2 2 from rfl]
          show hm_V p l e (hm_rm 5 0 0) s m args below meth c D (hm_A w s.heap.size) 5 0 0 (MQ below (hm_Qv D w s.heap.size (fun w2 => w2 = mB K w q ia ta I b md pl (tl md b st (cdC (mS I x))))) args s 0 0 (hm_A w s.heap.size)) (mB K w q ia ta I b md pl (tl md b st (pcP (mS I x) h.toNat ++ nb 2 2))) 21 [(3, .int (iI (2))), (2, .int (iI (h))), (0, .ref (q)), (1, .int (iI (x)))] []
          clear hM hI htd
          have hM : mAt K (mB K w q ia ta I b md pl (tl md b st (pcP (mS I x) h.toNat ++ nb 2 2))) q ia ta I (tl md b st (pcP (mS I x) h.toNat ++ nb 2 2)).1 b md (tl md b st (pcP (mS I x) h.toNat ++ nb 2 2)).2.1 (tl md b st (pcP (mS I x) h.toNat ++ nb 2 2)).2.2 pl := mAt_mM hm.n1 hm.n2 hm.n3
          have hI : mI K (mB K w q ia ta I b md pl (tl md b st (pcP (mS I x) h.toNat ++ nb 2 2))) q ia _ I := hM.i
          have htd := tl_td md b st (pcP (mS I x) h.toNat ++ nb 2 2)
          try simp only [List.length_append, nb_length, List.length_cons, List.length_nil] at htd
          have hp1 := pF_pN (S := (mS I x)) (h := h) (by omega)
          have hr1 := pR_1 hp1
          refine hv_iload_n E dX7_tellPieces_21 rfl 0 rfl rfl ?_
          refine hv_if_ne E 39 dX7_tellPieces_22 (by decide) ⟨by omega, by omega⟩ rfl (fun d15 => ?_) (fun d15 => ?_)
          · refine hv_iload_n E dX7_tellPieces_39 rfl 0 rfl rfl ?_
            refine hv_iconst E dX7_tellPieces_40 rfl ?_
            refine hv_icmp_ne E 58 dX7_tellPieces_41 (by decide) ⟨by omega, by omega⟩ ⟨by omega, by omega⟩ rfl (fun d16 => ?_) (fun d16 => ?_)
            · exact absurd d16 (by omega)
            · refine hv_aload_n E dX7_tellPieces_44 rfl 2 rfl rfl ?_
              refine hv_aload_n E dX7_tellPieces_45 rfl 2 rfl rfl ?_
              refine hv_iload_n E dX7_tellPieces_46 rfl 3 rfl rfl ?_
              refine hv_iload_n E dX7_tellPieces_47 rfl 1 rfl rfl ?_
              refine hv_callVI (na := 2) (As := [.int (iI (x)), .int (iI (h))]) (st := [.ref (q)]) E (c7_runsOf l D K x h (by omega) (by omega) (by omega) (by omega) hI) dX7_tellPieces_48 hI.1 (show vwCl[6]? = some (RX7, TX7, 7) from rfl) gL_X7_50 gV_X7_runsOf gI_X7_runsOf gC_X7_runsOf gZ_X7 (by decide +kernel) rfl ⟨Nat.le_of_ble_eq_true rfl, Nat.le_of_ble_eq_true rfl⟩ (Nat.le_of_ble_eq_true rfl) ⟨Nat.zero_le _, Nat.zero_le _⟩ rfl rfl (fun r w2 hp => ?_)
              rw [hp.1, hp.2]
              show hm_V p l e (hm_rm 5 0 0) s m args below meth c D (hm_A w s.heap.size) 5 0 0 (MQ below (hm_Qv D w s.heap.size (fun w2 => w2 = mB K w q ia ta I b md pl (tl md b st (cdC (mS I x))))) args s 0 0 (hm_A w s.heap.size)) (mB K w q ia ta I b md pl (tl md b st (pcP (mS I x) h.toNat ++ nb 2 2))) 51 [(3, .int (iI (2))), (2, .int (iI (h))), (0, .ref (q)), (1, .int (iI (x)))] [.int (iI (pR (mS I x) h)), .ref (q)]
              refine hv_iconst E dX7_tellPieces_51 rfl ?_
              refine hv_isub E dX7_tellPieces_52 rfl ?_
              refine hv_bipush E dX7_tellPieces_53 (by decide +kernel) rfl ?_
              refine hv_callVV (na := 2) (As := [.int (iI ((pR (mS I x) h) - 1)), .int (iI (8))]) (st := []) E (c7_tellNumber l D K (tl md b st (pcP (mS I x) h.toNat ++ nb 2 2)) (pR (mS I x) h - 1) (8) (by omega) (by omega) (by omega) (by omega) hM hb0 hb1 hmd (by omega) (by omega) (by omega)) dX7_tellPieces_55 hM.1 (show vwCl[6]? = some (RX7, TX7, 7) from rfl) gL_X7_87 gV_X7_tellNumber gI_X7_tellNumber gC_X7_tellNumber gZ_X7 (by decide +kernel) rfl ⟨Nat.le_of_ble_eq_true rfl, Nat.le_of_ble_eq_true rfl⟩ (Nat.le_of_ble_eq_true rfl) ⟨Nat.zero_le _, Nat.zero_le _⟩ rfl rfl (fun w2 hp => ?_)
              rw [mB_mB hm.n1 hm.n2 hm.n3, tl2] at hp
              rw [hp]
              show hm_V p l e (hm_rm 5 0 0) s m args below meth c D (hm_A w s.heap.size) 5 0 0 (MQ below (hm_Qv D w s.heap.size (fun w2 => w2 = mB K w q ia ta I b md pl (tl md b st (cdC (mS I x))))) args s 0 0 (hm_A w s.heap.size)) (mB K w q ia ta I b md pl (tl md b st (pcP (mS I x) h.toNat ++ nb 2 2 ++ nb (pR (mS I x) h - 1 : Int).toNat (8 : Int).toNat))) 58 [(3, .int (iI (2))), (2, .int (iI (h))), (0, .ref (q)), (1, .int (iI (x)))] []
              rw [show pcP (mS I x) h.toNat ++ nb 2 2 ++ nb (pR (mS I x) h - 1 : Int).toNat (8 : Int).toNat = pcP (mS I x) h.toNat ++ nb 2 2 ++ nb (pR (mS I x) h - 1).toNat 8 from rfl]
              show hm_V p l e (hm_rm 5 0 0) s m args below meth c D (hm_A w s.heap.size) 5 0 0 (MQ below (hm_Qv D w s.heap.size (fun w2 => w2 = mB K w q ia ta I b md pl (tl md b st (cdC (mS I x))))) args s 0 0 (hm_A w s.heap.size)) (mB K w q ia ta I b md pl (tl md b st (pcP (mS I x) h.toNat ++ nb 2 2 ++ nb (pR (mS I x) h - 1).toNat 8))) 58 [(3, .int (iI (2))), (2, .int (iI (h))), (0, .ref (q)), (1, .int (iI (x)))] []
              clear hM hI htd
              have hM : mAt K (mB K w q ia ta I b md pl (tl md b st (pcP (mS I x) h.toNat ++ nb 2 2 ++ nb (pR (mS I x) h - 1).toNat 8))) q ia ta I (tl md b st (pcP (mS I x) h.toNat ++ nb 2 2 ++ nb (pR (mS I x) h - 1).toNat 8)).1 b md (tl md b st (pcP (mS I x) h.toNat ++ nb 2 2 ++ nb (pR (mS I x) h - 1).toNat 8)).2.1 (tl md b st (pcP (mS I x) h.toNat ++ nb 2 2 ++ nb (pR (mS I x) h - 1).toNat 8)).2.2 pl := mAt_mM hm.n1 hm.n2 hm.n3
              have hI : mI K (mB K w q ia ta I b md pl (tl md b st (pcP (mS I x) h.toNat ++ nb 2 2 ++ nb (pR (mS I x) h - 1).toNat 8))) q ia _ I := hM.i
              have htd := tl_td md b st (pcP (mS I x) h.toNat ++ nb 2 2 ++ nb (pR (mS I x) h - 1).toNat 8)
              try simp only [List.length_append, nb_length, List.length_cons, List.length_nil] at htd
              refine hv_sipush E dX7_tellPieces_58 (by decide +kernel) rfl ?_
              refine hv_iload_n E dX7_tellPieces_61 rfl 1 rfl rfl ?_
              refine hv_imul E dX7_tellPieces_62 rfl ?_
              refine hv_istore (lv2 := [(4, .int (iI (256 * h))), (3, .int (iI (2))), (2, .int (iI (h))), (0, .ref (q)), (1, .int (iI (x)))]) E dX7_tellPieces_63 (by decide) rfl rfl ?_
              have ih0 := ih
              rw [show (256 : Int) * h = 256 * h + ((0 : Nat) : Int) by omega]
              show hm_V p l e (hm_rm 5 0 0) s m args below meth c D (hm_A w s.heap.size) 5 0 0 (MQ below (hm_Qv D w s.heap.size (fun w2 => w2 = mB K w q ia ta I b md pl (tl md b st (cdC (mS I x))))) args s 0 0 (hm_A w s.heap.size)) (mB K w q ia ta I b md pl (tl md b st (pcP (mS I x) h.toNat ++ nb 2 2 ++ nb (pR (mS I x) h - 1).toNat 8))) 65 [(4, .int (iI (256 * h + ((0 : Nat) : Int)))), (3, .int (iI (2))), (2, .int (iI (h))), (0, .ref (q)), (1, .int (iI (x)))] []
              rw [show pcP (mS I x) h.toNat ++ nb 2 2 ++ nb (pR (mS I x) h - 1).toNat 8 = pcP (mS I x) h.toNat ++ nb 2 2 ++ nb (pR (mS I x) h - 1).toNat 8 ++ bdP (mS I x) 2 (256 * h.toNat) 0 from (List.append_nil _).symm]
              show hm_V p l e (hm_rm 5 0 0) s m args below meth c D (hm_A w s.heap.size) 5 0 0 (MQ below (hm_Qv D w s.heap.size (fun w2 => w2 = mB K w q ia ta I b md pl (tl md b st (cdC (mS I x))))) args s 0 0 (hm_A w s.heap.size)) (mB K w q ia ta I b md pl (tl md b st (pcP (mS I x) h.toNat ++ nb 2 2 ++ nb (pR (mS I x) h - 1).toNat 8 ++ bdP (mS I x) 2 (256 * h.toNat) 0))) 65 [(4, .int (iI (256 * h + ((0 : Nat) : Int)))), (3, .int (iI (2))), (2, .int (iI (h))), (0, .ref (q)), (1, .int (iI (x)))] []
              have L2 : ∀ (k : Nat) (i : Nat), ((256 : Int) - i < (k : Int)) → (i ≤ 256) → hm_V p l e (hm_rm 5 0 0) s m args below meth c D (hm_A w s.heap.size) 5 0 0 (MQ below (hm_Qv D w s.heap.size (fun w2 => w2 = mB K w q ia ta I b md pl (tl md b st (cdC (mS I x))))) args s 0 0 (hm_A w s.heap.size)) (mB K w q ia ta I b md pl (tl md b st (pcP (mS I x) h.toNat ++ nb 2 2 ++ nb (pR (mS I x) h - 1).toNat 8 ++ bdP (mS I x) 2 (256 * h.toNat) i))) 65 [(4, .int (iI (256 * h + (i : Int)))), (3, .int (iI (2))), (2, .int (iI (h))), (0, .ref (q)), (1, .int (iI (x)))] [] := by
                intro k
                induction k with
                | zero =>
                  intro i hk2 i1
                  exact absurd hk2 (by omega)
                | succ k ih =>
                  intro i hk2 i1
                  clear hM hI htd
                  have hM : mAt K (mB K w q ia ta I b md pl (tl md b st (pcP (mS I x) h.toNat ++ nb 2 2 ++ nb (pR (mS I x) h - 1).toNat 8 ++ bdP (mS I x) 2 (256 * h.toNat) i))) q ia ta I (tl md b st (pcP (mS I x) h.toNat ++ nb 2 2 ++ nb (pR (mS I x) h - 1).toNat 8 ++ bdP (mS I x) 2 (256 * h.toNat) i)).1 b md (tl md b st (pcP (mS I x) h.toNat ++ nb 2 2 ++ nb (pR (mS I x) h - 1).toNat 8 ++ bdP (mS I x) 2 (256 * h.toNat) i)).2.1 (tl md b st (pcP (mS I x) h.toNat ++ nb 2 2 ++ nb (pR (mS I x) h - 1).toNat 8 ++ bdP (mS I x) 2 (256 * h.toNat) i)).2.2 pl := mAt_mM hm.n1 hm.n2 hm.n3
                  have hI : mI K (mB K w q ia ta I b md pl (tl md b st (pcP (mS I x) h.toNat ++ nb 2 2 ++ nb (pR (mS I x) h - 1).toNat 8 ++ bdP (mS I x) 2 (256 * h.toNat) i))) q ia _ I := hM.i
                  have htd := tl_td md b st (pcP (mS I x) h.toNat ++ nb 2 2 ++ nb (pR (mS I x) h - 1).toNat 8 ++ bdP (mS I x) 2 (256 * h.toNat) i)
                  try simp only [List.length_append, nb_length, List.length_cons, List.length_nil] at htd
                  have hbl := bdP_b (mS I x) 2 (256 * h.toNat) (by omega) i
                  have hai : (256 * h + (i : Int)).toNat = 256 * h.toNat + i := by omega
                  refine hv_iload E dX7_tellPieces_65 0 rfl rfl ?_
                  refine hv_sipush E dX7_tellPieces_67 (by decide +kernel) rfl ?_
                  refine hv_iload_n E dX7_tellPieces_70 rfl 2 rfl rfl ?_
                  refine hv_imul E dX7_tellPieces_71 rfl ?_
                  refine hv_sipush E dX7_tellPieces_72 (by decide +kernel) rfl ?_
                  refine hv_iadd E dX7_tellPieces_75 rfl ?_
                  refine hv_icmp_ge E 164 dX7_tellPieces_76 (by decide) ⟨by omega, by omega⟩ ⟨by omega, by omega⟩ rfl (fun c5 => ?_) (fun c5 => ?_)
                  · have h256 : i = 256 := by omega
                    refine hv_iinc (lv2 := [(2, .int (iI (h + 1))), (4, .int (iI (256 * h + (i : Int)))), (3, .int (iI (2))), (0, .ref (q)), (1, .int (iI (x)))]) E dX7_tellPieces_164 2 rfl rfl (by decide) rfl rfl ?_
                    refine hv_goto E 2 dX7_tellPieces_167 (by decide) ?_
                    rw [show pcP (mS I x) h.toNat ++ nb 2 2 ++ nb (pR (mS I x) h - 1).toNat 8 ++ bdP (mS I x) 2 (256 * h.toNat) i = pcP (mS I x) (h + 1).toNat from (by rw [hps, q1P_2 hf, h256]; simp only [List.append_assoc])]
                    show hm_V p l e (hm_rm 5 0 0) s m args below meth c D (hm_A w s.heap.size) 5 0 0 (MQ below (hm_Qv D w s.heap.size (fun w2 => w2 = mB K w q ia ta I b md pl (tl md b st (cdC (mS I x))))) args s 0 0 (hm_A w s.heap.size)) (mB K w q ia ta I b md pl (tl md b st (pcP (mS I x) (h + 1).toNat))) 2 [(2, .int (iI (h + 1))), (4, .int (iI (256 * h + (i : Int)))), (3, .int (iI (2))), (0, .ref (q)), (1, .int (iI (x)))] []
                    refine hv_sub (lv2 := [(2, .int (iI (h + 1))), (0, .ref (q)), (1, .int (iI (x)))]) [0, 3, 4] rfl ?_
                    exact ih0 (h + 1) (by omega) (by omega) (by omega)
                  · refine hv_iload_n E dX7_tellPieces_79 rfl 1 rfl rfl ?_
                    refine hv_iconst E dX7_tellPieces_80 rfl ?_
                    refine hv_icmp_ge E 164 dX7_tellPieces_81 (by decide) ⟨by omega, by omega⟩ ⟨by omega, by omega⟩ rfl (fun d17 => ?_) (fun d17 => ?_)
                    · exact absurd d17 (by omega)
                    · refine hv_iload_n E dX7_tellPieces_84 rfl 1 rfl rfl ?_
                      refine hv_iconst E dX7_tellPieces_85 rfl ?_
                      refine hv_icmp_ne E 103 dX7_tellPieces_86 (by decide) ⟨by omega, by omega⟩ ⟨by omega, by omega⟩ rfl (fun d18 => ?_) (fun d18 => ?_)
                      · refine hv_iload_n E dX7_tellPieces_103 rfl 1 rfl rfl ?_
                        refine hv_if_ne E 120 dX7_tellPieces_104 (by decide) ⟨by omega, by omega⟩ rfl (fun d19 => ?_) (fun d19 => ?_)
                        · refine hv_aload_n E dX7_tellPieces_120 rfl 3 rfl rfl ?_
                          refine hv_iload_n E dX7_tellPieces_121 rfl 4 rfl rfl ?_
                          refine hv_iload E dX7_tellPieces_122 0 rfl rfl ?_
                          refine hv_callVI (na := 2) (As := [.int (iI (x)), .int (iI (256 * h + (i : Int)))]) (st := []) E (c7_begins l D K x (256 * h + (i : Int)) (by omega) (by omega) (by omega) (by omega) hI) dX7_tellPieces_124 hI.1 (show vwCl[6]? = some (RX7, TX7, 7) from rfl) gL_X7_44 gV_X7_begins gI_X7_begins gC_X7_begins gZ_X7 (by decide +kernel) rfl ⟨Nat.le_of_ble_eq_true rfl, Nat.le_of_ble_eq_true rfl⟩ (Nat.le_of_ble_eq_true rfl) ⟨Nat.zero_le _, Nat.zero_le _⟩ rfl rfl (fun r w2 hp => ?_)
                          rw [hp.1, hp.2, hai, show decide ((256 * h + (i : Int)) % 256 = 0) = decide (i = 0) from decide_eq_decide.mpr (by omega), show (256 * h + (i : Int) - 1).toNat = 256 * h.toNat + i - 1 by omega]
                          show hm_V p l e (hm_rm 5 0 0) s m args below meth c D (hm_A w s.heap.size) 5 0 0 (MQ below (hm_Qv D w s.heap.size (fun w2 => w2 = mB K w q ia ta I b md pl (tl md b st (cdC (mS I x))))) args s 0 0 (hm_A w s.heap.size)) (mB K w q ia ta I b md pl (tl md b st (pcP (mS I x) h.toNat ++ nb 2 2 ++ nb (pR (mS I x) h - 1).toNat 8 ++ bdP (mS I x) 2 (256 * h.toNat) i))) 127 [(4, .int (iI (256 * h + (i : Int)))), (3, .int (iI (2))), (2, .int (iI (h))), (0, .ref (q)), (1, .int (iI (x)))] [.int (bI (bg (mS I x) (256 * h.toNat) i))]
                          refine hv_if_eqB E 158 dX7_tellPieces_127 (by decide) rfl (fun c6 => ?_) (fun c6 => ?_)
                          · refine hv_iinc (lv2 := [(4, .int (iI ((256 * h + (i : Int)) + 1))), (3, .int (iI (2))), (2, .int (iI (h))), (0, .ref (q)), (1, .int (iI (x)))]) E dX7_tellPieces_158 0 rfl rfl (by decide) rfl rfl ?_
                            refine hv_goto E 65 dX7_tellPieces_161 (by decide) ?_
                            rw [show pcP (mS I x) h.toNat ++ nb 2 2 ++ nb (pR (mS I x) h - 1).toNat 8 ++ bdP (mS I x) 2 (256 * h.toNat) i = pcP (mS I x) h.toNat ++ nb 2 2 ++ nb (pR (mS I x) h - 1).toNat 8 ++ bdP (mS I x) 2 (256 * h.toNat) (i + 1) from (by
                                  show _ = pcP (mS I x) h.toNat ++ nb 2 2 ++ nb (pR (mS I x) h - 1).toNat 8 ++ (bdP (mS I x) 2 (256 * h.toNat) i ++ _)
                                  simp [c6])]
                            show hm_V p l e (hm_rm 5 0 0) s m args below meth c D (hm_A w s.heap.size) 5 0 0 (MQ below (hm_Qv D w s.heap.size (fun w2 => w2 = mB K w q ia ta I b md pl (tl md b st (cdC (mS I x))))) args s 0 0 (hm_A w s.heap.size)) (mB K w q ia ta I b md pl (tl md b st (pcP (mS I x) h.toNat ++ nb 2 2 ++ nb (pR (mS I x) h - 1).toNat 8 ++ bdP (mS I x) 2 (256 * h.toNat) (i + 1)))) 65 [(4, .int (iI ((256 * h + (i : Int)) + 1))), (3, .int (iI (2))), (2, .int (iI (h))), (0, .ref (q)), (1, .int (iI (x)))] []
                            rw [show 256 * h + (i : Int) + 1 = 256 * h + ((i + 1 : Nat) : Int) by omega]
                            show hm_V p l e (hm_rm 5 0 0) s m args below meth c D (hm_A w s.heap.size) 5 0 0 (MQ below (hm_Qv D w s.heap.size (fun w2 => w2 = mB K w q ia ta I b md pl (tl md b st (cdC (mS I x))))) args s 0 0 (hm_A w s.heap.size)) (mB K w q ia ta I b md pl (tl md b st (pcP (mS I x) h.toNat ++ nb 2 2 ++ nb (pR (mS I x) h - 1).toNat 8 ++ bdP (mS I x) 2 (256 * h.toNat) (i + 1)))) 65 [(4, .int (iI (256 * h + ((i + 1 : Nat) : Int)))), (3, .int (iI (2))), (2, .int (iI (h))), (0, .ref (q)), (1, .int (iI (x)))] []
                            refine hv_sub (lv2 := [(4, .int (iI (256 * h + ((i + 1 : Nat) : Int)))), (3, .int (iI (2))), (2, .int (iI (h))), (0, .ref (q)), (1, .int (iI (x)))]) [0, 1, 2, 3, 4] rfl ?_
                            exact ih (i + 1) (by omega) (by omega)
                          · have hsi : mS I x (256 * h.toNat + i) = true := by unfold bg at c6; simp only [Bool.and_eq_true] at c6; exact c6.1
                            have hrl := rlen_le (mS I x) (256 * h.toNat) i (256 - i)
                            have hrl1 := rlen_1 (S := (mS I x)) (a := 256 * h.toNat) (i := i) (k := 256 - i) hsi (by omega)
                            refine hv_aload_n E dX7_tellPieces_130 rfl 3 rfl rfl ?_
                            refine hv_iload E dX7_tellPieces_131 0 rfl rfl ?_
                            refine hv_bipush E dX7_tellPieces_133 (by decide +kernel) rfl ?_
                            refine hv_callVV (na := 2) (As := [.int (iI (256 * h + (i : Int))), .int (iI (8))]) (st := []) E (c7_tellNumber l D K (tl md b st (pcP (mS I x) h.toNat ++ nb 2 2 ++ nb (pR (mS I x) h - 1).toNat 8 ++ bdP (mS I x) 2 (256 * h.toNat) i)) (256 * h + (i : Int)) (8) (by omega) (by omega) (by omega) (by omega) hM hb0 hb1 hmd (by omega) (by omega) (by omega)) dX7_tellPieces_135 hM.1 (show vwCl[6]? = some (RX7, TX7, 7) from rfl) gL_X7_87 gV_X7_tellNumber gI_X7_tellNumber gC_X7_tellNumber gZ_X7 (by decide +kernel) rfl ⟨Nat.le_of_ble_eq_true rfl, Nat.le_of_ble_eq_true rfl⟩ (Nat.le_of_ble_eq_true rfl) ⟨Nat.zero_le _, Nat.zero_le _⟩ rfl rfl (fun w2 hp => ?_)
                            rw [mB_mB hm.n1 hm.n2 hm.n3, tl2] at hp
                            rw [hp]
                            show hm_V p l e (hm_rm 5 0 0) s m args below meth c D (hm_A w s.heap.size) 5 0 0 (MQ below (hm_Qv D w s.heap.size (fun w2 => w2 = mB K w q ia ta I b md pl (tl md b st (cdC (mS I x))))) args s 0 0 (hm_A w s.heap.size)) (mB K w q ia ta I b md pl (tl md b st (pcP (mS I x) h.toNat ++ nb 2 2 ++ nb (pR (mS I x) h - 1).toNat 8 ++ bdP (mS I x) 2 (256 * h.toNat) i ++ nb (256 * h + (i : Int) : Int).toNat (8 : Int).toNat))) 138 [(4, .int (iI (256 * h + (i : Int)))), (3, .int (iI (2))), (2, .int (iI (h))), (0, .ref (q)), (1, .int (iI (x)))] []
                            clear hM hI htd
                            have hM : mAt K (mB K w q ia ta I b md pl (tl md b st (pcP (mS I x) h.toNat ++ nb 2 2 ++ nb (pR (mS I x) h - 1).toNat 8 ++ bdP (mS I x) 2 (256 * h.toNat) i ++ nb (256 * h + (i : Int) : Int).toNat (8 : Int).toNat))) q ia ta I (tl md b st (pcP (mS I x) h.toNat ++ nb 2 2 ++ nb (pR (mS I x) h - 1).toNat 8 ++ bdP (mS I x) 2 (256 * h.toNat) i ++ nb (256 * h + (i : Int) : Int).toNat (8 : Int).toNat)).1 b md (tl md b st (pcP (mS I x) h.toNat ++ nb 2 2 ++ nb (pR (mS I x) h - 1).toNat 8 ++ bdP (mS I x) 2 (256 * h.toNat) i ++ nb (256 * h + (i : Int) : Int).toNat (8 : Int).toNat)).2.1 (tl md b st (pcP (mS I x) h.toNat ++ nb 2 2 ++ nb (pR (mS I x) h - 1).toNat 8 ++ bdP (mS I x) 2 (256 * h.toNat) i ++ nb (256 * h + (i : Int) : Int).toNat (8 : Int).toNat)).2.2 pl := mAt_mM hm.n1 hm.n2 hm.n3
                            have hI : mI K (mB K w q ia ta I b md pl (tl md b st (pcP (mS I x) h.toNat ++ nb 2 2 ++ nb (pR (mS I x) h - 1).toNat 8 ++ bdP (mS I x) 2 (256 * h.toNat) i ++ nb (256 * h + (i : Int) : Int).toNat (8 : Int).toNat))) q ia _ I := hM.i
                            have htd := tl_td md b st (pcP (mS I x) h.toNat ++ nb 2 2 ++ nb (pR (mS I x) h - 1).toNat 8 ++ bdP (mS I x) 2 (256 * h.toNat) i ++ nb (256 * h + (i : Int) : Int).toNat (8 : Int).toNat)
                            try simp only [List.length_append, nb_length, List.length_cons, List.length_nil] at htd
                            refine hv_iload_n E dX7_tellPieces_138 rfl 1 rfl rfl ?_
                            refine hv_iconst E dX7_tellPieces_139 rfl ?_
                            refine hv_icmp_ne E 158 dX7_tellPieces_140 (by decide) ⟨by omega, by omega⟩ ⟨by omega, by omega⟩ rfl (fun d20 => ?_) (fun d20 => ?_)
                            · exact absurd d20 (by omega)
                            · refine hv_aload_n E dX7_tellPieces_143 rfl 3 rfl rfl ?_
                              refine hv_aload_n E dX7_tellPieces_144 rfl 3 rfl rfl ?_
                              refine hv_iload_n E dX7_tellPieces_145 rfl 4 rfl rfl ?_
                              refine hv_iload E dX7_tellPieces_146 0 rfl rfl ?_
                              rw [show 256 * h + (i : Int) = ((256 * h.toNat + i : Nat) : Int) by omega]
                              show hm_V p l e (hm_rm 5 0 0) s m args below meth c D (hm_A w s.heap.size) 5 0 0 (MQ below (hm_Qv D w s.heap.size (fun w2 => w2 = mB K w q ia ta I b md pl (tl md b st (cdC (mS I x))))) args s 0 0 (hm_A w s.heap.size)) (mB K w q ia ta I b md pl (tl md b st (pcP (mS I x) h.toNat ++ nb 2 2 ++ nb (pR (mS I x) h - 1).toNat 8 ++ bdP (mS I x) 2 (256 * h.toNat) i ++ nb (((256 * h.toNat + i : Nat) : Int) : Int).toNat (8 : Int).toNat))) 148 [(4, .int (iI (((256 * h.toNat + i : Nat) : Int)))), (3, .int (iI (2))), (2, .int (iI (h))), (0, .ref (q)), (1, .int (iI (x)))] [.int (iI (((256 * h.toNat + i : Nat) : Int))), .int (iI (x)), .ref (q), .ref (q)]
                              have hai2 : 256 * h + (i : Int) = ((256 * h.toNat + i : Nat) : Int) := by omega
                              rw [hai2] at hM hI htd
                              refine hv_callVI (na := 2) (As := [.int (iI (x)), .int (iI (((256 * h.toNat + i : Nat) : Int)))]) (st := [.ref (q)]) E (c7_lengthOf l D K x (256 * h.toNat) i (by omega) (by omega) (by omega) (by omega) (by omega) hsi hI) dX7_tellPieces_148 hI.1 (show vwCl[6]? = some (RX7, TX7, 7) from rfl) gL_X7_95 gV_X7_lengthOf gI_X7_lengthOf gC_X7_lengthOf gZ_X7 (by decide +kernel) rfl ⟨Nat.le_of_ble_eq_true rfl, Nat.le_of_ble_eq_true rfl⟩ (Nat.le_of_ble_eq_true rfl) ⟨Nat.zero_le _, Nat.zero_le _⟩ rfl rfl (fun r w2 hp => ?_)
                              rw [hp.1, hp.2]
                              show hm_V p l e (hm_rm 5 0 0) s m args below meth c D (hm_A w s.heap.size) 5 0 0 (MQ below (hm_Qv D w s.heap.size (fun w2 => w2 = mB K w q ia ta I b md pl (tl md b st (cdC (mS I x))))) args s 0 0 (hm_A w s.heap.size)) (mB K w q ia ta I b md pl (tl md b st (pcP (mS I x) h.toNat ++ nb 2 2 ++ nb (pR (mS I x) h - 1).toNat 8 ++ bdP (mS I x) 2 (256 * h.toNat) i ++ nb (((256 * h.toNat + i : Nat) : Int) : Int).toNat (8 : Int).toNat))) 151 [(4, .int (iI (((256 * h.toNat + i : Nat) : Int)))), (3, .int (iI (2))), (2, .int (iI (h))), (0, .ref (q)), (1, .int (iI (x)))] [.int (iI (((rlen (mS I x) (256 * h.toNat) i (256 - i) : Nat) : Int))), .ref (q)]
                              refine hv_iconst E dX7_tellPieces_151 rfl ?_
                              refine hv_isub E dX7_tellPieces_152 rfl ?_
                              refine hv_bipush E dX7_tellPieces_153 (by decide +kernel) rfl ?_
                              refine hv_callVV (na := 2) (As := [.int (iI ((((rlen (mS I x) (256 * h.toNat) i (256 - i) : Nat) : Int)) - 1)), .int (iI (8))]) (st := []) E (c7_tellNumber l D K (tl md b st (pcP (mS I x) h.toNat ++ nb 2 2 ++ nb (pR (mS I x) h - 1).toNat 8 ++ bdP (mS I x) 2 (256 * h.toNat) i ++ nb (((256 * h.toNat + i : Nat) : Int) : Int).toNat (8 : Int).toNat)) (((rlen (mS I x) (256 * h.toNat) i (256 - i) : Nat) : Int) - 1) (8) (by omega) (by omega) (by omega) (by omega) hM hb0 hb1 hmd (by omega) (by omega) (by omega)) dX7_tellPieces_155 hM.1 (show vwCl[6]? = some (RX7, TX7, 7) from rfl) gL_X7_87 gV_X7_tellNumber gI_X7_tellNumber gC_X7_tellNumber gZ_X7 (by decide +kernel) rfl ⟨Nat.le_of_ble_eq_true rfl, Nat.le_of_ble_eq_true rfl⟩ (Nat.le_of_ble_eq_true rfl) ⟨Nat.zero_le _, Nat.zero_le _⟩ rfl rfl (fun w2 hp => ?_)
                              rw [mB_mB hm.n1 hm.n2 hm.n3, tl2] at hp
                              rw [hp]
                              show hm_V p l e (hm_rm 5 0 0) s m args below meth c D (hm_A w s.heap.size) 5 0 0 (MQ below (hm_Qv D w s.heap.size (fun w2 => w2 = mB K w q ia ta I b md pl (tl md b st (cdC (mS I x))))) args s 0 0 (hm_A w s.heap.size)) (mB K w q ia ta I b md pl (tl md b st (pcP (mS I x) h.toNat ++ nb 2 2 ++ nb (pR (mS I x) h - 1).toNat 8 ++ bdP (mS I x) 2 (256 * h.toNat) i ++ nb (((256 * h.toNat + i : Nat) : Int) : Int).toNat (8 : Int).toNat ++ nb (((rlen (mS I x) (256 * h.toNat) i (256 - i) : Nat) : Int) - 1 : Int).toNat (8 : Int).toNat))) 158 [(4, .int (iI (((256 * h.toNat + i : Nat) : Int)))), (3, .int (iI (2))), (2, .int (iI (h))), (0, .ref (q)), (1, .int (iI (x)))] []
                              refine hv_iinc (lv2 := [(4, .int (iI ((((256 * h.toNat + i : Nat) : Int)) + 1))), (3, .int (iI (2))), (2, .int (iI (h))), (0, .ref (q)), (1, .int (iI (x)))]) E dX7_tellPieces_158 0 rfl rfl (by decide) rfl rfl ?_
                              refine hv_goto E 65 dX7_tellPieces_161 (by decide) ?_
                              rw [show pcP (mS I x) h.toNat ++ nb 2 2 ++ nb (pR (mS I x) h - 1).toNat 8 ++ bdP (mS I x) 2 (256 * h.toNat) i ++ nb (((256 * h.toNat + i : Nat) : Int) : Int).toNat (8 : Int).toNat ++ nb (((rlen (mS I x) (256 * h.toNat) i (256 - i) : Nat) : Int) - 1 : Int).toNat (8 : Int).toNat = pcP (mS I x) h.toNat ++ nb 2 2 ++ nb (pR (mS I x) h - 1).toNat 8 ++ bdP (mS I x) 2 (256 * h.toNat) (i + 1) from (by
                                    show _ = pcP (mS I x) h.toNat ++ nb 2 2 ++ nb (pR (mS I x) h - 1).toNat 8 ++ (bdP (mS I x) 2 (256 * h.toNat) i ++ _)
                                    rw [Int.toNat_natCast, show (((rlen (mS I x) (256 * h.toNat) i (256 - i) : Nat) : Int) - 1).toNat = rlen (mS I x) (256 * h.toNat) i (256 - i) - 1 by omega]; simp [c6])]
                              show hm_V p l e (hm_rm 5 0 0) s m args below meth c D (hm_A w s.heap.size) 5 0 0 (MQ below (hm_Qv D w s.heap.size (fun w2 => w2 = mB K w q ia ta I b md pl (tl md b st (cdC (mS I x))))) args s 0 0 (hm_A w s.heap.size)) (mB K w q ia ta I b md pl (tl md b st (pcP (mS I x) h.toNat ++ nb 2 2 ++ nb (pR (mS I x) h - 1).toNat 8 ++ bdP (mS I x) 2 (256 * h.toNat) (i + 1)))) 65 [(4, .int (iI ((((256 * h.toNat + i : Nat) : Int)) + 1))), (3, .int (iI (2))), (2, .int (iI (h))), (0, .ref (q)), (1, .int (iI (x)))] []
                              rw [show ((256 * h.toNat + i : Nat) : Int) + 1 = 256 * h + ((i + 1 : Nat) : Int) by omega]
                              show hm_V p l e (hm_rm 5 0 0) s m args below meth c D (hm_A w s.heap.size) 5 0 0 (MQ below (hm_Qv D w s.heap.size (fun w2 => w2 = mB K w q ia ta I b md pl (tl md b st (cdC (mS I x))))) args s 0 0 (hm_A w s.heap.size)) (mB K w q ia ta I b md pl (tl md b st (pcP (mS I x) h.toNat ++ nb 2 2 ++ nb (pR (mS I x) h - 1).toNat 8 ++ bdP (mS I x) 2 (256 * h.toNat) (i + 1)))) 65 [(4, .int (iI (256 * h + ((i + 1 : Nat) : Int)))), (3, .int (iI (2))), (2, .int (iI (h))), (0, .ref (q)), (1, .int (iI (x)))] []
                              refine hv_sub (lv2 := [(4, .int (iI (256 * h + ((i + 1 : Nat) : Int)))), (3, .int (iI (2))), (2, .int (iI (h))), (0, .ref (q)), (1, .int (iI (x)))]) [0, 1, 2, 3, 4] rfl ?_
                              exact ih (i + 1) (by omega) (by omega)
                        · exact absurd d19 (by omega)
                      · exact absurd d18 (by omega)
              refine hv_sub (lv2 := [(4, .int (iI (256 * h + ((0 : Nat) : Int)))), (3, .int (iI (2))), (2, .int (iI (h))), (0, .ref (q)), (1, .int (iI (x)))]) [0, 1, 2, 3, 4] rfl ?_
              exact L2 257 0 (by omega) (by omega)
          · exact absurd d15 (by omega)
  refine hv_sub (lv2 := [(2, .int (iI (0))), (0, .ref (q)), (1, .int (iI (x)))]) [0, 1, 2] rfl ?_
  exact LP 17 0 (by omega) (by omega) (by omega)
