abbrev tS : Type := (Nat → Bool) × Int × Bool
/-- a bit is told: mode 1 writes it, mode 2 compares it -/
def t1 (md b : Int) (st : tS) (y : Bool) : tS := (if md = 1 then va_up st.1 st.2.1.toNat y else st.1, st.2.1 + 1, if md = 2 then (st.2.2 && (decide (st.2.1 < b) && (st.1 st.2.1.toNat == y))) else st.2.2)
def tl (md b : Int) (st : tS) (c : List Bool) : tS := c.foldl (t1 md b) st
theorem tl_app (md b : Int) (st : tS) (c d : List Bool) : tl md b st (c ++ d) = tl md b (tl md b st c) d := List.foldl_append
theorem tl_nil (md b : Int) (st : tS) : tl md b st [] = st := rfl
theorem tl_one (md b : Int) (st : tS) (y : Bool) : tl md b st [y] = t1 md b st y := rfl
theorem tl_cons (md b : Int) (st : tS) (y : Bool) (c : List Bool) : tl md b st (y :: c) = tl md b (t1 md b st y) c := rfl
theorem tl_td (md b : Int) (st : tS) (c : List Bool) : (tl md b st c).2.1 = st.2.1 + (c.length : Nat) := by
  induction c generalizing st with
  | nil => simp [tl]
  | cons y c ih => rw [tl_cons, ih]; simp only [t1, List.length_cons]; omega
def mB (K : Nat → ClassId) (w : hm_M) (q ia ta : Nat) (I : Nat → Bool) (b md pl : Int) (st : tS) : hm_M := mM K w q ia ta I st.1 b md st.2.1 st.2.2 pl
theorem mB_mB {K : Nat → ClassId} {w : hm_M} {q ia ta : Nat} {I : Nat → Bool} {b md pl : Int} {st st2 : tS} (h1 : q ≠ ia) (h2 : q ≠ ta) (h3 : ia ≠ ta) : mB K (mB K w q ia ta I b md pl st) q ia ta I b md pl st2 = mB K w q ia ta I b md pl st2 := mM_mM h1 h2 h3
theorem bit_of {v : Int} (h0 : 0 ≤ v) (h1 : v < 2147483648) (k : Nat) (hk : k < 32) : (iI v >>> (iI (k : Int) &&& 31)) &&& iI 1 = bI (v.toNat.testBit k) := by
  rw [iI_shrN h0 h1 k hk]
  have hd : v.toNat / 2 ^ k ≤ v.toNat := Nat.div_le_self _ _
  apply b_ext
  intro i hi
  have e1 : ∀ i, i < 32 → bt (iI 1) i = decide (i = 0) := by decide +kernel
  have e2 : ∀ i, i < 32 → (bt (bI true) i = decide (i = 0) ∧ bt (bI false) i = false) := by decide +kernel
  rw [b_and, e1 i hi, bt_iI (Int.natCast_nonneg _) (by generalize v.toNat / 2 ^ k = zz at hd ⊢; omega), Int.toNat_natCast, Nat.testBit_div_two_pow]
  by_cases h : i = 0
  · subst h
    rw [Nat.zero_add]
    cases v.toNat.testBit k
    · rw [(e2 0 (by omega)).2]; rfl
    · rw [(e2 0 (by omega)).1]; rfl
  · rw [decide_eq_false h, Bool.and_false]
    cases v.toNat.testBit k
    · rw [(e2 i hi).2]
    · rw [(e2 i hi).1, decide_eq_false h]
set_option maxHeartbeats 4000000 in
set_option maxRecDepth 100000 in
theorem c7_tell (l : Launch) (D : va_G) (K : Nat → ClassId) {w : hm_M} {q ia ta : Nat} {I : Nat → Bool} {b md pl : Int} (st : tS) (y : Bool) (hm : mAt K w q ia ta I st.1 b md st.2.1 st.2.2 pl) (hb0 : 0 ≤ b) (hb1 : b ≤ 8210) (hmd : 0 ≤ md ∧ md ≤ 2) (ht0 : 0 ≤ st.2.1) (ht1 : st.2.1 < 1000000) (ht2 : md = 1 → st.2.1 < 8210)  : hm_Cv l D K yX7_tell cX7_tell 2 0 [.ref (q), .int (bI (y))] w 0 0 (fun w2 => w2 = mB K w q ia ta I b md pl (t1 md b st y)) := by
  refine hm_enterV (by decide) (Nat.le_of_ble_eq_true rfl) ?_
  intro p e s m args below meth c E hr hnm
  show hm_V p l e (hm_rm 0 0 0) s m args below meth c D (hm_A w s.heap.size) 2 0 0 (MQ below (hm_Qv D w s.heap.size (fun w2 => w2 = mB K w q ia ta I b md pl (t1 md b st y))) args s 0 0 (hm_A w s.heap.size)) w 0 [(0, .ref (q)), (1, .int (bI (y)))] []
  obtain ⟨T, td, ag⟩ := st
  dsimp only at hm ht0 ht1 ht2
  refine hv_aload_n E dX7_tell_0 rfl 0 rfl rfl ?_
  refine hv_get (kf := 3) E dX7_tell_1 (show vwCl[6]? = some (RX7, TX7, 7) from rfl) (by decide) gW_X7 gF_X7_59 rfl hm.1 rfl rfl ?_
  refine hv_iconst E dX7_tell_4 rfl ?_
  refine hv_icmp_ne E 18 dX7_tell_5 (by decide) ⟨by omega, by omega⟩ ⟨by omega, by omega⟩ rfl (fun c1 => ?_) (fun c1 => ?_)
  · skip
    refine hv_aload_n E dX7_tell_18 rfl 0 rfl rfl ?_
    refine hv_get (kf := 3) E dX7_tell_19 (show vwCl[6]? = some (RX7, TX7, 7) from rfl) (by decide) gW_X7 gF_X7_59 rfl hm.1 rfl rfl ?_
    refine hv_iconst E dX7_tell_22 rfl ?_
    refine hv_icmp_ne E 66 dX7_tell_23 (by decide) ⟨by omega, by omega⟩ ⟨by omega, by omega⟩ rfl (fun c2 => ?_) (fun c2 => ?_)
    · skip
      refine hv_aload_n E dX7_tell_66 rfl 0 rfl rfl ?_
      refine hv_dup E dX7_tell_67 rfl rfl ?_
      refine hv_get (kf := 4) E dX7_tell_68 (show vwCl[6]? = some (RX7, TX7, 7) from rfl) (by decide) gW_X7 gF_X7_63 rfl hm.1 rfl rfl ?_
      refine hv_iconst E dX7_tell_71 rfl ?_
      refine hv_iadd E dX7_tell_72 rfl ?_
      refine hv_mem (show w = mM K w q ia ta I T b md td ag pl from mM_id hm) ?_
      have hm2 := mAt_mM (K := K) (w := w) (I := I) (T := T) (b := b) (md := md) (td := td) (ag := ag) (pl := pl) hm.n1 hm.n2 hm.n3
      refine hv_put (kf := 4) (ty0 := tyX7) E dX7_tell_73 (show vwCl[6]? = some (RX7, TX7, 7) from rfl) (by decide) gW_X7 tyX7_ok nmX7 gF_X7_63 rfl hm2.1 rfl rfl rfl (Nat.le_of_ble_eq_true rfl) rfl ?_
      show hm_V p l e (hm_rm 0 0 0) s m args below meth c D (hm_A w s.heap.size) 2 0 0 (MQ below (hm_Qv D w s.heap.size (fun w2 => w2 = mB K w q ia ta I b md pl (t1 md b (T, td, ag) y))) args s 0 0 (hm_A w s.heap.size)) (hm_up (mM K w q ia ta I T b md td ag pl) q (.inr (6, [.ref ia, .ref ta, .int (iI (b)), .int (iI (md)), .int (iI (td + 1)), .int (bI (ag)), .int (iI (pl))]))) 76 [(0, .ref (q)), (1, .int (bI (y)))] []
      refine hv_mem (show hm_up (mM K w q ia ta I T b md td ag pl) q (.inr (6, [.ref ia, .ref ta, .int (iI (b)), .int (iI (md)), .int (iI (td + 1)), .int (bI (ag)), .int (iI (pl))])) = mM K w q ia ta I T b md (td + 1) ag pl from mM_O) ?_
      exact hv_vret E dX7_tell_76 hr (by
            first
            | (exfalso; omega)
            | (unfold mB t1; simp [c1, c2]; done)
            | (unfold mB t1; simp [c1, c2]; rw [decide_eq_false (by omega)]; rfl)
            | (unfold mB t1; simp [c1]; rw [beq_false_of_ne c2]))
    · skip
      refine hv_aload_n E dX7_tell_26 rfl 0 rfl rfl ?_
      refine hv_aload_n E dX7_tell_27 rfl 0 rfl rfl ?_
      refine hv_get (kf := 5) E dX7_tell_28 (show vwCl[6]? = some (RX7, TX7, 7) from rfl) (by decide) gW_X7 gF_X7_66 rfl hm.1 rfl rfl ?_
      refine hv_if_eqB E 62 dX7_tell_31 (by decide) rfl (fun c3 => ?_) (fun c3 => ?_)
      · refine hv_iconst E dX7_tell_62 rfl ?_
        refine hv_mem (show w = mM K w q ia ta I T b md td ag pl from mM_id hm) ?_
        have hm2 := mAt_mM (K := K) (w := w) (I := I) (T := T) (b := b) (md := md) (td := td) (ag := ag) (pl := pl) hm.n1 hm.n2 hm.n3
        refine hv_topi (show iI (0) = bI (false) from rfl) ?_
        refine hv_put (kf := 5) (ty0 := tyX7) E dX7_tell_63 (show vwCl[6]? = some (RX7, TX7, 7) from rfl) (by decide) gW_X7 tyX7_ok nmX7 gF_X7_66 rfl hm2.1 rfl (bI_narrow _) (bI_fits _) (Nat.le_of_ble_eq_true rfl) rfl ?_
        show hm_V p l e (hm_rm 0 0 0) s m args below meth c D (hm_A w s.heap.size) 2 0 0 (MQ below (hm_Qv D w s.heap.size (fun w2 => w2 = mB K w q ia ta I b md pl (t1 md b (T, td, ag) y))) args s 0 0 (hm_A w s.heap.size)) (hm_up (mM K w q ia ta I T b md td ag pl) q (.inr (6, [.ref ia, .ref ta, .int (iI (b)), .int (iI (md)), .int (iI (td)), .int (bI (false)), .int (iI (pl))]))) 66 [(0, .ref (q)), (1, .int (bI (y)))] []
        refine hv_mem (show hm_up (mM K w q ia ta I T b md td ag pl) q (.inr (6, [.ref ia, .ref ta, .int (iI (b)), .int (iI (md)), .int (iI (td)), .int (bI (false)), .int (iI (pl))])) = mM K w q ia ta I T b md td false pl from mM_O) ?_
        have hm3 := mAt_mM (K := K) (w := w) (I := I) (T := T) (b := b) (md := md) (td := td) (ag := false) (pl := pl) hm.n1 hm.n2 hm.n3
        refine hv_aload_n E dX7_tell_66 rfl 0 rfl rfl ?_
        refine hv_dup E dX7_tell_67 rfl rfl ?_
        refine hv_get (kf := 4) E dX7_tell_68 (show vwCl[6]? = some (RX7, TX7, 7) from rfl) (by decide) gW_X7 gF_X7_63 rfl hm3.1 rfl rfl ?_
        refine hv_iconst E dX7_tell_71 rfl ?_
        refine hv_iadd E dX7_tell_72 rfl ?_
        refine hv_put (kf := 4) (ty0 := tyX7) E dX7_tell_73 (show vwCl[6]? = some (RX7, TX7, 7) from rfl) (by decide) gW_X7 tyX7_ok nmX7 gF_X7_63 rfl hm3.1 rfl rfl rfl (Nat.le_of_ble_eq_true rfl) rfl ?_
        show hm_V p l e (hm_rm 0 0 0) s m args below meth c D (hm_A w s.heap.size) 2 0 0 (MQ below (hm_Qv D w s.heap.size (fun w2 => w2 = mB K w q ia ta I b md pl (t1 md b (T, td, ag) y))) args s 0 0 (hm_A w s.heap.size)) (hm_up (mM K w q ia ta I T b md td false pl) q (.inr (6, [.ref ia, .ref ta, .int (iI (b)), .int (iI (md)), .int (iI (td + 1)), .int (bI (false)), .int (iI (pl))]))) 76 [(0, .ref (q)), (1, .int (bI (y)))] []
        refine hv_mem (show hm_up (mM K w q ia ta I T b md td false pl) q (.inr (6, [.ref ia, .ref ta, .int (iI (b)), .int (iI (md)), .int (iI (td + 1)), .int (bI (false)), .int (iI (pl))])) = mM K w q ia ta I T b md (td + 1) false pl from mM_O) ?_
        exact hv_vret E dX7_tell_76 hr (by
              first
              | (exfalso; omega)
              | (unfold mB t1; simp [c1, c2, c3]; done)
              | (unfold mB t1; simp [c1, c2, c3]; rw [decide_eq_false (by omega)]; rfl)
              | (unfold mB t1; simp [c1, c2]; rw [beq_false_of_ne c3]))
      · refine hv_aload_n E dX7_tell_34 rfl 0 rfl rfl ?_
        refine hv_get (kf := 4) E dX7_tell_35 (show vwCl[6]? = some (RX7, TX7, 7) from rfl) (by decide) gW_X7 gF_X7_63 rfl hm.1 rfl rfl ?_
        refine hv_aload_n E dX7_tell_38 rfl 0 rfl rfl ?_
        refine hv_get (kf := 2) E dX7_tell_39 (show vwCl[6]? = some (RX7, TX7, 7) from rfl) (by decide) gW_X7 gF_X7_70 rfl hm.1 rfl rfl ?_
        refine hv_icmp_ge E 62 dX7_tell_42 (by decide) ⟨by omega, by omega⟩ ⟨by omega, by omega⟩ rfl (fun c4 => ?_) (fun c4 => ?_)
        · skip
          refine hv_iconst E dX7_tell_62 rfl ?_
          refine hv_mem (show w = mM K w q ia ta I T b md td ag pl from mM_id hm) ?_
          have hm2 := mAt_mM (K := K) (w := w) (I := I) (T := T) (b := b) (md := md) (td := td) (ag := ag) (pl := pl) hm.n1 hm.n2 hm.n3
          refine hv_topi (show iI (0) = bI (false) from rfl) ?_
          refine hv_put (kf := 5) (ty0 := tyX7) E dX7_tell_63 (show vwCl[6]? = some (RX7, TX7, 7) from rfl) (by decide) gW_X7 tyX7_ok nmX7 gF_X7_66 rfl hm2.1 rfl (bI_narrow _) (bI_fits _) (Nat.le_of_ble_eq_true rfl) rfl ?_
          show hm_V p l e (hm_rm 0 0 0) s m args below meth c D (hm_A w s.heap.size) 2 0 0 (MQ below (hm_Qv D w s.heap.size (fun w2 => w2 = mB K w q ia ta I b md pl (t1 md b (T, td, ag) y))) args s 0 0 (hm_A w s.heap.size)) (hm_up (mM K w q ia ta I T b md td ag pl) q (.inr (6, [.ref ia, .ref ta, .int (iI (b)), .int (iI (md)), .int (iI (td)), .int (bI (false)), .int (iI (pl))]))) 66 [(0, .ref (q)), (1, .int (bI (y)))] []
          refine hv_mem (show hm_up (mM K w q ia ta I T b md td ag pl) q (.inr (6, [.ref ia, .ref ta, .int (iI (b)), .int (iI (md)), .int (iI (td)), .int (bI (false)), .int (iI (pl))])) = mM K w q ia ta I T b md td false pl from mM_O) ?_
          have hm3 := mAt_mM (K := K) (w := w) (I := I) (T := T) (b := b) (md := md) (td := td) (ag := false) (pl := pl) hm.n1 hm.n2 hm.n3
          refine hv_aload_n E dX7_tell_66 rfl 0 rfl rfl ?_
          refine hv_dup E dX7_tell_67 rfl rfl ?_
          refine hv_get (kf := 4) E dX7_tell_68 (show vwCl[6]? = some (RX7, TX7, 7) from rfl) (by decide) gW_X7 gF_X7_63 rfl hm3.1 rfl rfl ?_
          refine hv_iconst E dX7_tell_71 rfl ?_
          refine hv_iadd E dX7_tell_72 rfl ?_
          refine hv_put (kf := 4) (ty0 := tyX7) E dX7_tell_73 (show vwCl[6]? = some (RX7, TX7, 7) from rfl) (by decide) gW_X7 tyX7_ok nmX7 gF_X7_63 rfl hm3.1 rfl rfl rfl (Nat.le_of_ble_eq_true rfl) rfl ?_
          show hm_V p l e (hm_rm 0 0 0) s m args below meth c D (hm_A w s.heap.size) 2 0 0 (MQ below (hm_Qv D w s.heap.size (fun w2 => w2 = mB K w q ia ta I b md pl (t1 md b (T, td, ag) y))) args s 0 0 (hm_A w s.heap.size)) (hm_up (mM K w q ia ta I T b md td false pl) q (.inr (6, [.ref ia, .ref ta, .int (iI (b)), .int (iI (md)), .int (iI (td + 1)), .int (bI (false)), .int (iI (pl))]))) 76 [(0, .ref (q)), (1, .int (bI (y)))] []
          refine hv_mem (show hm_up (mM K w q ia ta I T b md td false pl) q (.inr (6, [.ref ia, .ref ta, .int (iI (b)), .int (iI (md)), .int (iI (td + 1)), .int (bI (false)), .int (iI (pl))])) = mM K w q ia ta I T b md (td + 1) false pl from mM_O) ?_
          exact hv_vret E dX7_tell_76 hr (by
                first
                | (exfalso; omega)
                | (unfold mB t1; simp [c1, c2, c3, c4]; done)
                | (unfold mB t1; simp [c1, c2, c3, c4]; rw [decide_eq_false (by omega)]; rfl)
                | (unfold mB t1; simp [c1, c2, c3]; rw [beq_false_of_ne c4]))
        · skip
          refine hv_aload_n E dX7_tell_45 rfl 0 rfl rfl ?_
          refine hv_get (kf := 1) E dX7_tell_46 (show vwCl[6]? = some (RX7, TX7, 7) from rfl) (by decide) gW_X7 gF_X7_14 rfl hm.1 rfl rfl ?_
          refine hv_aload_n E dX7_tell_49 rfl 0 rfl rfl ?_
          refine hv_get (kf := 4) E dX7_tell_50 (show vwCl[6]? = some (RX7, TX7, 7) from rfl) (by decide) gW_X7 gF_X7_63 rfl hm.1 rfl rfl ?_
          refine hv_zald E dX7_tell_53 hm.2.2 (by omega) (by omega) (by decide) rfl ?_
          refine hv_iload_n E dX7_tell_54 rfl 1 rfl rfl ?_
          refine hv_icmp_neB E 62 dX7_tell_55 (by decide) rfl (fun c5 => ?_) (fun c5 => ?_)
          · skip
            refine hv_iconst E dX7_tell_62 rfl ?_
            refine hv_mem (show w = mM K w q ia ta I T b md td ag pl from mM_id hm) ?_
            have hm2 := mAt_mM (K := K) (w := w) (I := I) (T := T) (b := b) (md := md) (td := td) (ag := ag) (pl := pl) hm.n1 hm.n2 hm.n3
            refine hv_topi (show iI (0) = bI (false) from rfl) ?_
            refine hv_put (kf := 5) (ty0 := tyX7) E dX7_tell_63 (show vwCl[6]? = some (RX7, TX7, 7) from rfl) (by decide) gW_X7 tyX7_ok nmX7 gF_X7_66 rfl hm2.1 rfl (bI_narrow _) (bI_fits _) (Nat.le_of_ble_eq_true rfl) rfl ?_
            show hm_V p l e (hm_rm 0 0 0) s m args below meth c D (hm_A w s.heap.size) 2 0 0 (MQ below (hm_Qv D w s.heap.size (fun w2 => w2 = mB K w q ia ta I b md pl (t1 md b (T, td, ag) y))) args s 0 0 (hm_A w s.heap.size)) (hm_up (mM K w q ia ta I T b md td ag pl) q (.inr (6, [.ref ia, .ref ta, .int (iI (b)), .int (iI (md)), .int (iI (td)), .int (bI (false)), .int (iI (pl))]))) 66 [(0, .ref (q)), (1, .int (bI (y)))] []
            refine hv_mem (show hm_up (mM K w q ia ta I T b md td ag pl) q (.inr (6, [.ref ia, .ref ta, .int (iI (b)), .int (iI (md)), .int (iI (td)), .int (bI (false)), .int (iI (pl))])) = mM K w q ia ta I T b md td false pl from mM_O) ?_
            have hm3 := mAt_mM (K := K) (w := w) (I := I) (T := T) (b := b) (md := md) (td := td) (ag := false) (pl := pl) hm.n1 hm.n2 hm.n3
            refine hv_aload_n E dX7_tell_66 rfl 0 rfl rfl ?_
            refine hv_dup E dX7_tell_67 rfl rfl ?_
            refine hv_get (kf := 4) E dX7_tell_68 (show vwCl[6]? = some (RX7, TX7, 7) from rfl) (by decide) gW_X7 gF_X7_63 rfl hm3.1 rfl rfl ?_
            refine hv_iconst E dX7_tell_71 rfl ?_
            refine hv_iadd E dX7_tell_72 rfl ?_
            refine hv_put (kf := 4) (ty0 := tyX7) E dX7_tell_73 (show vwCl[6]? = some (RX7, TX7, 7) from rfl) (by decide) gW_X7 tyX7_ok nmX7 gF_X7_63 rfl hm3.1 rfl rfl rfl (Nat.le_of_ble_eq_true rfl) rfl ?_
            show hm_V p l e (hm_rm 0 0 0) s m args below meth c D (hm_A w s.heap.size) 2 0 0 (MQ below (hm_Qv D w s.heap.size (fun w2 => w2 = mB K w q ia ta I b md pl (t1 md b (T, td, ag) y))) args s 0 0 (hm_A w s.heap.size)) (hm_up (mM K w q ia ta I T b md td false pl) q (.inr (6, [.ref ia, .ref ta, .int (iI (b)), .int (iI (md)), .int (iI (td + 1)), .int (bI (false)), .int (iI (pl))]))) 76 [(0, .ref (q)), (1, .int (bI (y)))] []
            refine hv_mem (show hm_up (mM K w q ia ta I T b md td false pl) q (.inr (6, [.ref ia, .ref ta, .int (iI (b)), .int (iI (md)), .int (iI (td + 1)), .int (bI (false)), .int (iI (pl))])) = mM K w q ia ta I T b md (td + 1) false pl from mM_O) ?_
            exact hv_vret E dX7_tell_76 hr (by
                  first
                  | (exfalso; omega)
                  | (unfold mB t1; simp [c1, c2, c3, c4, c5]; done)
                  | (unfold mB t1; simp [c1, c2, c3, c4, c5]; rw [decide_eq_false (by omega)]; rfl)
                  | (unfold mB t1; simp [c1, c2, c3, c4]; rw [beq_false_of_ne c5]))
          · skip
            refine hv_iconst E dX7_tell_58 rfl ?_
            refine hv_goto E 63 dX7_tell_59 (by decide) ?_
            refine hv_mem (show w = mM K w q ia ta I T b md td ag pl from mM_id hm) ?_
            have hm2 := mAt_mM (K := K) (w := w) (I := I) (T := T) (b := b) (md := md) (td := td) (ag := ag) (pl := pl) hm.n1 hm.n2 hm.n3
            refine hv_topi (show iI (1) = bI (true) from rfl) ?_
            refine hv_put (kf := 5) (ty0 := tyX7) E dX7_tell_63 (show vwCl[6]? = some (RX7, TX7, 7) from rfl) (by decide) gW_X7 tyX7_ok nmX7 gF_X7_66 rfl hm2.1 rfl (bI_narrow _) (bI_fits _) (Nat.le_of_ble_eq_true rfl) rfl ?_
            show hm_V p l e (hm_rm 0 0 0) s m args below meth c D (hm_A w s.heap.size) 2 0 0 (MQ below (hm_Qv D w s.heap.size (fun w2 => w2 = mB K w q ia ta I b md pl (t1 md b (T, td, ag) y))) args s 0 0 (hm_A w s.heap.size)) (hm_up (mM K w q ia ta I T b md td ag pl) q (.inr (6, [.ref ia, .ref ta, .int (iI (b)), .int (iI (md)), .int (iI (td)), .int (bI (true)), .int (iI (pl))]))) 66 [(0, .ref (q)), (1, .int (bI (y)))] []
            refine hv_mem (show hm_up (mM K w q ia ta I T b md td ag pl) q (.inr (6, [.ref ia, .ref ta, .int (iI (b)), .int (iI (md)), .int (iI (td)), .int (bI (true)), .int (iI (pl))])) = mM K w q ia ta I T b md td true pl from mM_O) ?_
            have hm3 := mAt_mM (K := K) (w := w) (I := I) (T := T) (b := b) (md := md) (td := td) (ag := true) (pl := pl) hm.n1 hm.n2 hm.n3
            refine hv_aload_n E dX7_tell_66 rfl 0 rfl rfl ?_
            refine hv_dup E dX7_tell_67 rfl rfl ?_
            refine hv_get (kf := 4) E dX7_tell_68 (show vwCl[6]? = some (RX7, TX7, 7) from rfl) (by decide) gW_X7 gF_X7_63 rfl hm3.1 rfl rfl ?_
            refine hv_iconst E dX7_tell_71 rfl ?_
            refine hv_iadd E dX7_tell_72 rfl ?_
            refine hv_put (kf := 4) (ty0 := tyX7) E dX7_tell_73 (show vwCl[6]? = some (RX7, TX7, 7) from rfl) (by decide) gW_X7 tyX7_ok nmX7 gF_X7_63 rfl hm3.1 rfl rfl rfl (Nat.le_of_ble_eq_true rfl) rfl ?_
            show hm_V p l e (hm_rm 0 0 0) s m args below meth c D (hm_A w s.heap.size) 2 0 0 (MQ below (hm_Qv D w s.heap.size (fun w2 => w2 = mB K w q ia ta I b md pl (t1 md b (T, td, ag) y))) args s 0 0 (hm_A w s.heap.size)) (hm_up (mM K w q ia ta I T b md td true pl) q (.inr (6, [.ref ia, .ref ta, .int (iI (b)), .int (iI (md)), .int (iI (td + 1)), .int (bI (true)), .int (iI (pl))]))) 76 [(0, .ref (q)), (1, .int (bI (y)))] []
            refine hv_mem (show hm_up (mM K w q ia ta I T b md td true pl) q (.inr (6, [.ref ia, .ref ta, .int (iI (b)), .int (iI (md)), .int (iI (td + 1)), .int (bI (true)), .int (iI (pl))])) = mM K w q ia ta I T b md (td + 1) true pl from mM_O) ?_
            exact hv_vret E dX7_tell_76 hr (by
                  first
                  | (exfalso; omega)
                  | (unfold mB t1; simp [c1, c2, c3, c4, c5]; done)
                  | (unfold mB t1; simp [c1, c2, c3, c4, c5]; rw [decide_eq_false (by omega)]; rfl)
                  | (unfold mB t1; simp [c1, c2, c3, c4]; rw [beq_false_of_ne c5]))
  · skip
    refine hv_aload_n E dX7_tell_8 rfl 0 rfl rfl ?_
    refine hv_get (kf := 1) E dX7_tell_9 (show vwCl[6]? = some (RX7, TX7, 7) from rfl) (by decide) gW_X7 gF_X7_14 rfl hm.1 rfl rfl ?_
    refine hv_aload_n E dX7_tell_12 rfl 0 rfl rfl ?_
    refine hv_get (kf := 4) E dX7_tell_13 (show vwCl[6]? = some (RX7, TX7, 7) from rfl) (by decide) gW_X7 gF_X7_63 rfl hm.1 rfl rfl ?_
    refine hv_iload_n E dX7_tell_16 rfl 1 rfl rfl ?_
    have ht3 := ht2 (by omega)
    refine hv_zast E dX7_tell_17 hm.2.2 (by omega) (by omega) (by decide) rfl ?_
    refine hv_mem (show hm_up w ta (mT K (va_up T td.toNat y)) = mM K w q ia ta I (va_up T td.toNat y) b md td ag pl from (by
          have h9 := mM_T (K := K) (w := w) (q := q) (ia := ia) (ta := ta) (I := I) (T := T) (b := b) (md := md) (td := td) (ag := ag) (pl := pl) (U := va_up T td.toNat y) hm.n2
          rw [← mM_id hm] at h9; exact h9)) ?_
    have hm2 := mAt_mM (K := K) (w := w) (I := I) (T := va_up T td.toNat y) (b := b) (md := md) (td := td) (ag := ag) (pl := pl) hm.n1 hm.n2 hm.n3
    refine hv_aload_n E dX7_tell_18 rfl 0 rfl rfl ?_
    refine hv_get (kf := 3) E dX7_tell_19 (show vwCl[6]? = some (RX7, TX7, 7) from rfl) (by decide) gW_X7 gF_X7_59 rfl hm2.1 rfl rfl ?_
    refine hv_iconst E dX7_tell_22 rfl ?_
    refine hv_icmp_ne E 66 dX7_tell_23 (by decide) ⟨by omega, by omega⟩ ⟨by omega, by omega⟩ rfl (fun c6 => ?_) (fun c6 => ?_)
    · skip
      refine hv_aload_n E dX7_tell_66 rfl 0 rfl rfl ?_
      refine hv_dup E dX7_tell_67 rfl rfl ?_
      refine hv_get (kf := 4) E dX7_tell_68 (show vwCl[6]? = some (RX7, TX7, 7) from rfl) (by decide) gW_X7 gF_X7_63 rfl hm2.1 rfl rfl ?_
      refine hv_iconst E dX7_tell_71 rfl ?_
      refine hv_iadd E dX7_tell_72 rfl ?_
      refine hv_put (kf := 4) (ty0 := tyX7) E dX7_tell_73 (show vwCl[6]? = some (RX7, TX7, 7) from rfl) (by decide) gW_X7 tyX7_ok nmX7 gF_X7_63 rfl hm2.1 rfl rfl rfl (Nat.le_of_ble_eq_true rfl) rfl ?_
      show hm_V p l e (hm_rm 0 0 0) s m args below meth c D (hm_A w s.heap.size) 2 0 0 (MQ below (hm_Qv D w s.heap.size (fun w2 => w2 = mB K w q ia ta I b md pl (t1 md b (T, td, ag) y))) args s 0 0 (hm_A w s.heap.size)) (hm_up (mM K w q ia ta I (va_up T td.toNat y) b md td ag pl) q (.inr (6, [.ref ia, .ref ta, .int (iI (b)), .int (iI (md)), .int (iI (td + 1)), .int (bI (ag)), .int (iI (pl))]))) 76 [(0, .ref (q)), (1, .int (bI (y)))] []
      refine hv_mem (show hm_up (mM K w q ia ta I (va_up T td.toNat y) b md td ag pl) q (.inr (6, [.ref ia, .ref ta, .int (iI (b)), .int (iI (md)), .int (iI (td + 1)), .int (bI (ag)), .int (iI (pl))])) = mM K w q ia ta I (va_up T td.toNat y) b md (td + 1) ag pl from mM_O) ?_
      exact hv_vret E dX7_tell_76 hr (by
            first
            | (exfalso; omega)
            | (unfold mB t1; simp [c1, c6]; done)
            | (unfold mB t1; simp [c1, c6]; rw [decide_eq_false (by omega)]; rfl)
            | (unfold mB t1; simp [c1]; rw [beq_false_of_ne c6]))
    · skip
      refine hv_aload_n E dX7_tell_26 rfl 0 rfl rfl ?_
      refine hv_aload_n E dX7_tell_27 rfl 0 rfl rfl ?_
      refine hv_get (kf := 5) E dX7_tell_28 (show vwCl[6]? = some (RX7, TX7, 7) from rfl) (by decide) gW_X7 gF_X7_66 rfl hm2.1 rfl rfl ?_
      refine hv_if_eqB E 62 dX7_tell_31 (by decide) rfl (fun c7 => ?_) (fun c7 => ?_)
      · refine hv_iconst E dX7_tell_62 rfl ?_
        refine hv_topi (show iI (0) = bI (false) from rfl) ?_
        refine hv_put (kf := 5) (ty0 := tyX7) E dX7_tell_63 (show vwCl[6]? = some (RX7, TX7, 7) from rfl) (by decide) gW_X7 tyX7_ok nmX7 gF_X7_66 rfl hm2.1 rfl (bI_narrow _) (bI_fits _) (Nat.le_of_ble_eq_true rfl) rfl ?_
        show hm_V p l e (hm_rm 0 0 0) s m args below meth c D (hm_A w s.heap.size) 2 0 0 (MQ below (hm_Qv D w s.heap.size (fun w2 => w2 = mB K w q ia ta I b md pl (t1 md b (T, td, ag) y))) args s 0 0 (hm_A w s.heap.size)) (hm_up (mM K w q ia ta I (va_up T td.toNat y) b md td ag pl) q (.inr (6, [.ref ia, .ref ta, .int (iI (b)), .int (iI (md)), .int (iI (td)), .int (bI (false)), .int (iI (pl))]))) 66 [(0, .ref (q)), (1, .int (bI (y)))] []
        refine hv_mem (show hm_up (mM K w q ia ta I (va_up T td.toNat y) b md td ag pl) q (.inr (6, [.ref ia, .ref ta, .int (iI (b)), .int (iI (md)), .int (iI (td)), .int (bI (false)), .int (iI (pl))])) = mM K w q ia ta I (va_up T td.toNat y) b md td false pl from mM_O) ?_
        have hm3 := mAt_mM (K := K) (w := w) (I := I) (T := va_up T td.toNat y) (b := b) (md := md) (td := td) (ag := false) (pl := pl) hm.n1 hm.n2 hm.n3
        refine hv_aload_n E dX7_tell_66 rfl 0 rfl rfl ?_
        refine hv_dup E dX7_tell_67 rfl rfl ?_
        refine hv_get (kf := 4) E dX7_tell_68 (show vwCl[6]? = some (RX7, TX7, 7) from rfl) (by decide) gW_X7 gF_X7_63 rfl hm3.1 rfl rfl ?_
        refine hv_iconst E dX7_tell_71 rfl ?_
        refine hv_iadd E dX7_tell_72 rfl ?_
        refine hv_put (kf := 4) (ty0 := tyX7) E dX7_tell_73 (show vwCl[6]? = some (RX7, TX7, 7) from rfl) (by decide) gW_X7 tyX7_ok nmX7 gF_X7_63 rfl hm3.1 rfl rfl rfl (Nat.le_of_ble_eq_true rfl) rfl ?_
        show hm_V p l e (hm_rm 0 0 0) s m args below meth c D (hm_A w s.heap.size) 2 0 0 (MQ below (hm_Qv D w s.heap.size (fun w2 => w2 = mB K w q ia ta I b md pl (t1 md b (T, td, ag) y))) args s 0 0 (hm_A w s.heap.size)) (hm_up (mM K w q ia ta I (va_up T td.toNat y) b md td false pl) q (.inr (6, [.ref ia, .ref ta, .int (iI (b)), .int (iI (md)), .int (iI (td + 1)), .int (bI (false)), .int (iI (pl))]))) 76 [(0, .ref (q)), (1, .int (bI (y)))] []
        refine hv_mem (show hm_up (mM K w q ia ta I (va_up T td.toNat y) b md td false pl) q (.inr (6, [.ref ia, .ref ta, .int (iI (b)), .int (iI (md)), .int (iI (td + 1)), .int (bI (false)), .int (iI (pl))])) = mM K w q ia ta I (va_up T td.toNat y) b md (td + 1) false pl from mM_O) ?_
        exact hv_vret E dX7_tell_76 hr (by
              first
              | (exfalso; omega)
              | (unfold mB t1; simp [c1, c6, c7]; done)
              | (unfold mB t1; simp [c1, c6, c7]; rw [decide_eq_false (by omega)]; rfl)
              | (unfold mB t1; simp [c1, c6]; rw [beq_false_of_ne c7]))
      · refine hv_aload_n E dX7_tell_34 rfl 0 rfl rfl ?_
        refine hv_get (kf := 4) E dX7_tell_35 (show vwCl[6]? = some (RX7, TX7, 7) from rfl) (by decide) gW_X7 gF_X7_63 rfl hm2.1 rfl rfl ?_
        refine hv_aload_n E dX7_tell_38 rfl 0 rfl rfl ?_
        refine hv_get (kf := 2) E dX7_tell_39 (show vwCl[6]? = some (RX7, TX7, 7) from rfl) (by decide) gW_X7 gF_X7_70 rfl hm2.1 rfl rfl ?_
        refine hv_icmp_ge E 62 dX7_tell_42 (by decide) ⟨by omega, by omega⟩ ⟨by omega, by omega⟩ rfl (fun c8 => ?_) (fun c8 => ?_)
        · skip
          refine hv_iconst E dX7_tell_62 rfl ?_
          refine hv_topi (show iI (0) = bI (false) from rfl) ?_
          refine hv_put (kf := 5) (ty0 := tyX7) E dX7_tell_63 (show vwCl[6]? = some (RX7, TX7, 7) from rfl) (by decide) gW_X7 tyX7_ok nmX7 gF_X7_66 rfl hm2.1 rfl (bI_narrow _) (bI_fits _) (Nat.le_of_ble_eq_true rfl) rfl ?_
          show hm_V p l e (hm_rm 0 0 0) s m args below meth c D (hm_A w s.heap.size) 2 0 0 (MQ below (hm_Qv D w s.heap.size (fun w2 => w2 = mB K w q ia ta I b md pl (t1 md b (T, td, ag) y))) args s 0 0 (hm_A w s.heap.size)) (hm_up (mM K w q ia ta I (va_up T td.toNat y) b md td ag pl) q (.inr (6, [.ref ia, .ref ta, .int (iI (b)), .int (iI (md)), .int (iI (td)), .int (bI (false)), .int (iI (pl))]))) 66 [(0, .ref (q)), (1, .int (bI (y)))] []
          refine hv_mem (show hm_up (mM K w q ia ta I (va_up T td.toNat y) b md td ag pl) q (.inr (6, [.ref ia, .ref ta, .int (iI (b)), .int (iI (md)), .int (iI (td)), .int (bI (false)), .int (iI (pl))])) = mM K w q ia ta I (va_up T td.toNat y) b md td false pl from mM_O) ?_
          have hm3 := mAt_mM (K := K) (w := w) (I := I) (T := va_up T td.toNat y) (b := b) (md := md) (td := td) (ag := false) (pl := pl) hm.n1 hm.n2 hm.n3
          refine hv_aload_n E dX7_tell_66 rfl 0 rfl rfl ?_
          refine hv_dup E dX7_tell_67 rfl rfl ?_
          refine hv_get (kf := 4) E dX7_tell_68 (show vwCl[6]? = some (RX7, TX7, 7) from rfl) (by decide) gW_X7 gF_X7_63 rfl hm3.1 rfl rfl ?_
          refine hv_iconst E dX7_tell_71 rfl ?_
          refine hv_iadd E dX7_tell_72 rfl ?_
          refine hv_put (kf := 4) (ty0 := tyX7) E dX7_tell_73 (show vwCl[6]? = some (RX7, TX7, 7) from rfl) (by decide) gW_X7 tyX7_ok nmX7 gF_X7_63 rfl hm3.1 rfl rfl rfl (Nat.le_of_ble_eq_true rfl) rfl ?_
          show hm_V p l e (hm_rm 0 0 0) s m args below meth c D (hm_A w s.heap.size) 2 0 0 (MQ below (hm_Qv D w s.heap.size (fun w2 => w2 = mB K w q ia ta I b md pl (t1 md b (T, td, ag) y))) args s 0 0 (hm_A w s.heap.size)) (hm_up (mM K w q ia ta I (va_up T td.toNat y) b md td false pl) q (.inr (6, [.ref ia, .ref ta, .int (iI (b)), .int (iI (md)), .int (iI (td + 1)), .int (bI (false)), .int (iI (pl))]))) 76 [(0, .ref (q)), (1, .int (bI (y)))] []
          refine hv_mem (show hm_up (mM K w q ia ta I (va_up T td.toNat y) b md td false pl) q (.inr (6, [.ref ia, .ref ta, .int (iI (b)), .int (iI (md)), .int (iI (td + 1)), .int (bI (false)), .int (iI (pl))])) = mM K w q ia ta I (va_up T td.toNat y) b md (td + 1) false pl from mM_O) ?_
          exact hv_vret E dX7_tell_76 hr (by
                first
                | (exfalso; omega)
                | (unfold mB t1; simp [c1, c6, c7, c8]; done)
                | (unfold mB t1; simp [c1, c6, c7, c8]; rw [decide_eq_false (by omega)]; rfl)
                | (unfold mB t1; simp [c1, c6, c7]; rw [beq_false_of_ne c8]))
        · skip
          refine hv_aload_n E dX7_tell_45 rfl 0 rfl rfl ?_
          refine hv_get (kf := 1) E dX7_tell_46 (show vwCl[6]? = some (RX7, TX7, 7) from rfl) (by decide) gW_X7 gF_X7_14 rfl hm2.1 rfl rfl ?_
          refine hv_aload_n E dX7_tell_49 rfl 0 rfl rfl ?_
          refine hv_get (kf := 4) E dX7_tell_50 (show vwCl[6]? = some (RX7, TX7, 7) from rfl) (by decide) gW_X7 gF_X7_63 rfl hm2.1 rfl rfl ?_
          refine hv_zald E dX7_tell_53 hm2.2.2 (by omega) (by omega) (by decide) rfl ?_
          refine hv_iload_n E dX7_tell_54 rfl 1 rfl rfl ?_
          refine hv_icmp_neB E 62 dX7_tell_55 (by decide) rfl (fun c9 => ?_) (fun c9 => ?_)
          · skip
            refine hv_iconst E dX7_tell_62 rfl ?_
            refine hv_topi (show iI (0) = bI (false) from rfl) ?_
            refine hv_put (kf := 5) (ty0 := tyX7) E dX7_tell_63 (show vwCl[6]? = some (RX7, TX7, 7) from rfl) (by decide) gW_X7 tyX7_ok nmX7 gF_X7_66 rfl hm2.1 rfl (bI_narrow _) (bI_fits _) (Nat.le_of_ble_eq_true rfl) rfl ?_
            show hm_V p l e (hm_rm 0 0 0) s m args below meth c D (hm_A w s.heap.size) 2 0 0 (MQ below (hm_Qv D w s.heap.size (fun w2 => w2 = mB K w q ia ta I b md pl (t1 md b (T, td, ag) y))) args s 0 0 (hm_A w s.heap.size)) (hm_up (mM K w q ia ta I (va_up T td.toNat y) b md td ag pl) q (.inr (6, [.ref ia, .ref ta, .int (iI (b)), .int (iI (md)), .int (iI (td)), .int (bI (false)), .int (iI (pl))]))) 66 [(0, .ref (q)), (1, .int (bI (y)))] []
            refine hv_mem (show hm_up (mM K w q ia ta I (va_up T td.toNat y) b md td ag pl) q (.inr (6, [.ref ia, .ref ta, .int (iI (b)), .int (iI (md)), .int (iI (td)), .int (bI (false)), .int (iI (pl))])) = mM K w q ia ta I (va_up T td.toNat y) b md td false pl from mM_O) ?_
            have hm3 := mAt_mM (K := K) (w := w) (I := I) (T := va_up T td.toNat y) (b := b) (md := md) (td := td) (ag := false) (pl := pl) hm.n1 hm.n2 hm.n3
            refine hv_aload_n E dX7_tell_66 rfl 0 rfl rfl ?_
            refine hv_dup E dX7_tell_67 rfl rfl ?_
            refine hv_get (kf := 4) E dX7_tell_68 (show vwCl[6]? = some (RX7, TX7, 7) from rfl) (by decide) gW_X7 gF_X7_63 rfl hm3.1 rfl rfl ?_
            refine hv_iconst E dX7_tell_71 rfl ?_
            refine hv_iadd E dX7_tell_72 rfl ?_
            refine hv_put (kf := 4) (ty0 := tyX7) E dX7_tell_73 (show vwCl[6]? = some (RX7, TX7, 7) from rfl) (by decide) gW_X7 tyX7_ok nmX7 gF_X7_63 rfl hm3.1 rfl rfl rfl (Nat.le_of_ble_eq_true rfl) rfl ?_
            show hm_V p l e (hm_rm 0 0 0) s m args below meth c D (hm_A w s.heap.size) 2 0 0 (MQ below (hm_Qv D w s.heap.size (fun w2 => w2 = mB K w q ia ta I b md pl (t1 md b (T, td, ag) y))) args s 0 0 (hm_A w s.heap.size)) (hm_up (mM K w q ia ta I (va_up T td.toNat y) b md td false pl) q (.inr (6, [.ref ia, .ref ta, .int (iI (b)), .int (iI (md)), .int (iI (td + 1)), .int (bI (false)), .int (iI (pl))]))) 76 [(0, .ref (q)), (1, .int (bI (y)))] []
            refine hv_mem (show hm_up (mM K w q ia ta I (va_up T td.toNat y) b md td false pl) q (.inr (6, [.ref ia, .ref ta, .int (iI (b)), .int (iI (md)), .int (iI (td + 1)), .int (bI (false)), .int (iI (pl))])) = mM K w q ia ta I (va_up T td.toNat y) b md (td + 1) false pl from mM_O) ?_
            exact hv_vret E dX7_tell_76 hr (by
                  first
                  | (exfalso; omega)
                  | (unfold mB t1; simp [c1, c6, c7, c8, c9]; done)
                  | (unfold mB t1; simp [c1, c6, c7, c8, c9]; rw [decide_eq_false (by omega)]; rfl)
                  | (unfold mB t1; simp [c1, c6, c7, c8]; rw [beq_false_of_ne c9]))
          · skip
            refine hv_iconst E dX7_tell_58 rfl ?_
            refine hv_goto E 63 dX7_tell_59 (by decide) ?_
            refine hv_topi (show iI (1) = bI (true) from rfl) ?_
            refine hv_put (kf := 5) (ty0 := tyX7) E dX7_tell_63 (show vwCl[6]? = some (RX7, TX7, 7) from rfl) (by decide) gW_X7 tyX7_ok nmX7 gF_X7_66 rfl hm2.1 rfl (bI_narrow _) (bI_fits _) (Nat.le_of_ble_eq_true rfl) rfl ?_
            show hm_V p l e (hm_rm 0 0 0) s m args below meth c D (hm_A w s.heap.size) 2 0 0 (MQ below (hm_Qv D w s.heap.size (fun w2 => w2 = mB K w q ia ta I b md pl (t1 md b (T, td, ag) y))) args s 0 0 (hm_A w s.heap.size)) (hm_up (mM K w q ia ta I (va_up T td.toNat y) b md td ag pl) q (.inr (6, [.ref ia, .ref ta, .int (iI (b)), .int (iI (md)), .int (iI (td)), .int (bI (true)), .int (iI (pl))]))) 66 [(0, .ref (q)), (1, .int (bI (y)))] []
            refine hv_mem (show hm_up (mM K w q ia ta I (va_up T td.toNat y) b md td ag pl) q (.inr (6, [.ref ia, .ref ta, .int (iI (b)), .int (iI (md)), .int (iI (td)), .int (bI (true)), .int (iI (pl))])) = mM K w q ia ta I (va_up T td.toNat y) b md td true pl from mM_O) ?_
            have hm3 := mAt_mM (K := K) (w := w) (I := I) (T := va_up T td.toNat y) (b := b) (md := md) (td := td) (ag := true) (pl := pl) hm.n1 hm.n2 hm.n3
            refine hv_aload_n E dX7_tell_66 rfl 0 rfl rfl ?_
            refine hv_dup E dX7_tell_67 rfl rfl ?_
            refine hv_get (kf := 4) E dX7_tell_68 (show vwCl[6]? = some (RX7, TX7, 7) from rfl) (by decide) gW_X7 gF_X7_63 rfl hm3.1 rfl rfl ?_
            refine hv_iconst E dX7_tell_71 rfl ?_
            refine hv_iadd E dX7_tell_72 rfl ?_
            refine hv_put (kf := 4) (ty0 := tyX7) E dX7_tell_73 (show vwCl[6]? = some (RX7, TX7, 7) from rfl) (by decide) gW_X7 tyX7_ok nmX7 gF_X7_63 rfl hm3.1 rfl rfl rfl (Nat.le_of_ble_eq_true rfl) rfl ?_
            show hm_V p l e (hm_rm 0 0 0) s m args below meth c D (hm_A w s.heap.size) 2 0 0 (MQ below (hm_Qv D w s.heap.size (fun w2 => w2 = mB K w q ia ta I b md pl (t1 md b (T, td, ag) y))) args s 0 0 (hm_A w s.heap.size)) (hm_up (mM K w q ia ta I (va_up T td.toNat y) b md td true pl) q (.inr (6, [.ref ia, .ref ta, .int (iI (b)), .int (iI (md)), .int (iI (td + 1)), .int (bI (true)), .int (iI (pl))]))) 76 [(0, .ref (q)), (1, .int (bI (y)))] []
            refine hv_mem (show hm_up (mM K w q ia ta I (va_up T td.toNat y) b md td true pl) q (.inr (6, [.ref ia, .ref ta, .int (iI (b)), .int (iI (md)), .int (iI (td + 1)), .int (bI (true)), .int (iI (pl))])) = mM K w q ia ta I (va_up T td.toNat y) b md (td + 1) true pl from mM_O) ?_
            exact hv_vret E dX7_tell_76 hr (by
                  first
                  | (exfalso; omega)
                  | (unfold mB t1; simp [c1, c6, c7, c8, c9]; done)
                  | (unfold mB t1; simp [c1, c6, c7, c8, c9]; rw [decide_eq_false (by omega)]; rfl)
                  | (unfold mB t1; simp [c1, c6, c7, c8]; rw [beq_false_of_ne c9]))
set_option maxHeartbeats 4000000 in
set_option maxRecDepth 100000 in
theorem c7_tellNumber (l : Launch) (D : va_G) (K : Nat → ClassId) {w : hm_M} {q ia ta : Nat} {I : Nat → Bool} {b md pl : Int} (st : tS) (v n : Int) (hv0 : 0 ≤ v) (hv1 : v < 2147483648) (hn0 : 0 ≤ n) (hn1 : n ≤ 31) (hm : mAt K w q ia ta I st.1 b md st.2.1 st.2.2 pl) (hb0 : 0 ≤ b) (hb1 : b ≤ 8210) (hmd : 0 ≤ md ∧ md ≤ 2) (ht0 : 0 ≤ st.2.1) (ht1 : st.2.1 + n < 1000000) (ht2 : md = 1 → st.2.1 + n ≤ 8210)  : hm_Cv l D K yX7_tellNumber cX7_tellNumber 4 1 [.ref (q), .int (iI (v)), .int (iI (n))] w 0 0 (fun w2 => w2 = mB K w q ia ta I b md pl (tl md b st (nb v.toNat n.toNat))) := by
  refine hm_enterV (by decide) (Nat.le_of_ble_eq_true rfl) ?_
  intro p e s m args below meth c E hr hnm
  show hm_V p l e (hm_rm 1 0 0) s m args below meth c D (hm_A w s.heap.size) 4 0 0 (MQ below (hm_Qv D w s.heap.size (fun w2 => w2 = mB K w q ia ta I b md pl (tl md b st (nb v.toNat n.toNat)))) args s 0 0 (hm_A w s.heap.size)) w 0 [(0, .ref (q)), (1, .int (iI (v))), (2, .int (iI (n)))] []
  refine hv_iload_n E dX7_tellNumber_0 rfl 2 rfl rfl ?_
  refine hv_iconst E dX7_tellNumber_1 rfl ?_
  refine hv_isub E dX7_tellNumber_2 rfl ?_
  refine hv_istore_n (lv2 := [(3, .int (iI (n - 1))), (0, .ref (q)), (1, .int (iI (v))), (2, .int (iI (n)))]) E dX7_tellNumber_3 rfl (by decide) rfl rfl ?_
  refine hv_mem (show w = mB K w q ia ta I b md pl (st) from mM_id hm) ?_
  have LP : ∀ (k : Nat) (i : Nat) (st2 : tS), ((i : Int) < (k : Int)) → ((i : Int) ≤ n) → (tl md b st2 (nb v.toNat i) = tl md b st (nb v.toNat n.toNat)) → (st2.2.1 + i = st.2.1 + n) → hm_V p l e (hm_rm 1 0 0) s m args below meth c D (hm_A w s.heap.size) 4 0 0 (MQ below (hm_Qv D w s.heap.size (fun w2 => w2 = mB K w q ia ta I b md pl (tl md b st (nb v.toNat n.toNat)))) args s 0 0 (hm_A w s.heap.size)) (mB K w q ia ta I b md pl (st2)) 4 [(3, .int (iI ((i : Int) - 1))), (0, .ref (q)), (1, .int (iI (v))), (2, .int (iI (n)))] [] := by
    intro k
    induction k with
    | zero =>
      intro i st2 hk g1 hx hd
      exact absurd hk (by omega)
    | succ k ih =>
      intro i st2 hk g1 hx hd
      have hM : mAt K (mB K w q ia ta I b md pl (st2)) q ia ta I (st2).1 b md (st2).2.1 (st2).2.2 pl := mAt_mM hm.n1 hm.n2 hm.n3
      have hI : mI K (mB K w q ia ta I b md pl (st2)) q ia _ I := hM.i
      refine hv_iload_n E dX7_tellNumber_4 rfl 0 rfl rfl ?_
      refine hv_if_lt E 32 dX7_tellNumber_5 (by decide) ⟨by omega, by omega⟩ rfl (fun c1 => ?_) (fun c1 => ?_)
      · exact hv_vret E dX7_tellNumber_32 hr (by rw [← hx, show i = 0 by omega]; rfl)
      · obtain ⟨i2, hi2⟩ : ∃ i2, i = i2 + 1 := ⟨i - 1, by omega⟩
        subst hi2
        rw [show (((i2 + 1 : Nat) : Int) - 1) = (i2 : Int) by omega]
        show hm_V p l e (hm_rm 1 0 0) s m args below meth c D (hm_A w s.heap.size) 4 0 0 (MQ below (hm_Qv D w s.heap.size (fun w2 => w2 = mB K w q ia ta I b md pl (tl md b st (nb v.toNat n.toNat)))) args s 0 0 (hm_A w s.heap.size)) (mB K w q ia ta I b md pl (st2)) 8 [(3, .int (iI ((i2 : Int)))), (0, .ref (q)), (1, .int (iI (v))), (2, .int (iI (n)))] []
        refine hv_aload_n E dX7_tellNumber_8 rfl 1 rfl rfl ?_
        refine hv_iload_n E dX7_tellNumber_9 rfl 2 rfl rfl ?_
        refine hv_iload_n E dX7_tellNumber_10 rfl 0 rfl rfl ?_
        refine hv_ishrR E dX7_tellNumber_11 rfl rfl ?_
        refine hv_iconst E dX7_tellNumber_12 rfl ?_
        refine hv_iandR E dX7_tellNumber_13 rfl ?_
        refine hv_topi (show ((iI (v)) >>> ((iI ((i2 : Int))) &&& 31)) &&& (iI (1)) = bI (v.toNat.testBit i2) from bit_of hv0 hv1 i2 (by omega)) ?_
        refine hv_iconst E dX7_tellNumber_14 rfl ?_
        refine hv_topi (show iI (1) = bI (true) from rfl) ?_
        refine hv_icmp_neB E 22 dX7_tellNumber_15 (by decide) rfl (fun c2 => ?_) (fun c2 => ?_)
        · refine hv_iconst E dX7_tellNumber_22 rfl ?_
          refine hv_topi (show iI (0) = bI (false) from rfl) ?_
          refine hv_callVV (na := 1) (As := [.int (bI (false))]) (st := []) E (c7_tell l D K (st2) false hM hb0 hb1 hmd (by omega) (by omega) (by omega)) dX7_tellNumber_23 hM.1 (show vwCl[6]? = some (RX7, TX7, 7) from rfl) gL_X7_73 gV_X7_tell gI_X7_tell gC_X7_tell gZ_X7 (by decide +kernel) rfl ⟨Nat.le_of_ble_eq_true rfl, Nat.le_of_ble_eq_true rfl⟩ (Nat.le_of_ble_eq_true rfl) ⟨Nat.zero_le _, Nat.zero_le _⟩ rfl rfl (fun w2 hp => ?_)
          rw [mB_mB hm.n1 hm.n2 hm.n3] at hp
          rw [hp]
          show hm_V p l e (hm_rm 1 0 0) s m args below meth c D (hm_A w s.heap.size) 4 0 0 (MQ below (hm_Qv D w s.heap.size (fun w2 => w2 = mB K w q ia ta I b md pl (tl md b st (nb v.toNat n.toNat)))) args s 0 0 (hm_A w s.heap.size)) (mB K w q ia ta I b md pl (t1 md b st2 false)) 26 [(3, .int (iI ((i2 : Int)))), (0, .ref (q)), (1, .int (iI (v))), (2, .int (iI (n)))] []
          refine hv_iinc (lv2 := [(3, .int (iI (((i2 : Int)) + (-1)))), (0, .ref (q)), (1, .int (iI (v))), (2, .int (iI (n)))]) E dX7_tellNumber_26 0 rfl rfl (by decide) rfl rfl ?_
          refine hv_goto E 4 dX7_tellNumber_29 (by decide) ?_
          show hm_V p l e (hm_rm 1 0 0) s m args below meth c D (hm_A w s.heap.size) 4 0 0 (MQ below (hm_Qv D w s.heap.size (fun w2 => w2 = mB K w q ia ta I b md pl (tl md b st (nb v.toNat n.toNat)))) args s 0 0 (hm_A w s.heap.size)) (mB K w q ia ta I b md pl (t1 md b st2 false)) 4 [(3, .int (iI ((i2 : Int) - 1))), (0, .ref (q)), (1, .int (iI (v))), (2, .int (iI (n)))] []
          refine hv_sub (lv2 := [(3, .int (iI ((i2 : Int) - 1))), (0, .ref (q)), (1, .int (iI (v))), (2, .int (iI (n)))]) [0, 1, 2, 3] rfl ?_
          exact ih i2 _ (by omega) (by omega) (by
                rw [← hx]
                show _ = tl md b st2 (v.toNat.testBit i2 :: nb v.toNat i2)
                rw [tl_cons, eq_false_of_ne_true c2]) (by show st2.2.1 + 1 + _ = _; omega)
        · refine hv_iconst E dX7_tellNumber_18 rfl ?_
          refine hv_goto E 23 dX7_tellNumber_19 (by decide) ?_
          refine hv_topi (show iI (1) = bI (true) from rfl) ?_
          refine hv_callVV (na := 1) (As := [.int (bI (true))]) (st := []) E (c7_tell l D K (st2) true hM hb0 hb1 hmd (by omega) (by omega) (by omega)) dX7_tellNumber_23 hM.1 (show vwCl[6]? = some (RX7, TX7, 7) from rfl) gL_X7_73 gV_X7_tell gI_X7_tell gC_X7_tell gZ_X7 (by decide +kernel) rfl ⟨Nat.le_of_ble_eq_true rfl, Nat.le_of_ble_eq_true rfl⟩ (Nat.le_of_ble_eq_true rfl) ⟨Nat.zero_le _, Nat.zero_le _⟩ rfl rfl (fun w2 hp => ?_)
          rw [mB_mB hm.n1 hm.n2 hm.n3] at hp
          rw [hp]
          show hm_V p l e (hm_rm 1 0 0) s m args below meth c D (hm_A w s.heap.size) 4 0 0 (MQ below (hm_Qv D w s.heap.size (fun w2 => w2 = mB K w q ia ta I b md pl (tl md b st (nb v.toNat n.toNat)))) args s 0 0 (hm_A w s.heap.size)) (mB K w q ia ta I b md pl (t1 md b st2 true)) 26 [(3, .int (iI ((i2 : Int)))), (0, .ref (q)), (1, .int (iI (v))), (2, .int (iI (n)))] []
          refine hv_iinc (lv2 := [(3, .int (iI (((i2 : Int)) + (-1)))), (0, .ref (q)), (1, .int (iI (v))), (2, .int (iI (n)))]) E dX7_tellNumber_26 0 rfl rfl (by decide) rfl rfl ?_
          refine hv_goto E 4 dX7_tellNumber_29 (by decide) ?_
          show hm_V p l e (hm_rm 1 0 0) s m args below meth c D (hm_A w s.heap.size) 4 0 0 (MQ below (hm_Qv D w s.heap.size (fun w2 => w2 = mB K w q ia ta I b md pl (tl md b st (nb v.toNat n.toNat)))) args s 0 0 (hm_A w s.heap.size)) (mB K w q ia ta I b md pl (t1 md b st2 true)) 4 [(3, .int (iI ((i2 : Int) - 1))), (0, .ref (q)), (1, .int (iI (v))), (2, .int (iI (n)))] []
          refine hv_sub (lv2 := [(3, .int (iI ((i2 : Int) - 1))), (0, .ref (q)), (1, .int (iI (v))), (2, .int (iI (n)))]) [0, 1, 2, 3] rfl ?_
          exact ih i2 _ (by omega) (by omega) (by
                rw [← hx]
                show _ = tl md b st2 (v.toNat.testBit i2 :: nb v.toNat i2)
                rw [tl_cons, c2]) (by show st2.2.1 + 1 + _ = _; omega)
  have h9 := LP (n.toNat + 1) n.toNat st (by omega) (by omega) rfl (by omega)
  rw [Int.toNat_of_nonneg hn0] at h9
  refine hv_sub (lv2 := [(3, .int (iI (n - 1))), (0, .ref (q)), (1, .int (iI (v))), (2, .int (iI (n)))]) [0, 1, 2, 3] rfl ?_
  exact h9
set_option maxHeartbeats 4000000 in
set_option maxRecDepth 100000 in
theorem c7_lowOf (l : Launch) (D : va_G) (K : Nat → ClassId) {w : hm_M} (n : Int) (h0 : 1 ≤ n) (h1 : n ≤ 4096)  : hm_Ci l D K yX7_lowOf cX7_lowOf 2 .int 0 [.int (iI (n))] w 0 0 (fun r w2 => r = iI ((lw n.toNat : Nat) : Int) ∧ w2 = w) := by
  refine hm_enterI (by decide) (Nat.le_of_ble_eq_true rfl) ?_
  intro p e s m args below meth c E hr hnm
  show hm_V p l e (hm_rm 0 0 0) s m args below meth c D (hm_A w s.heap.size) 2 0 0 (MQ below (hm_Qi D w s.heap.size (fun r w2 => r = iI ((lw n.toNat : Nat) : Int) ∧ w2 = w)) args s 0 0 (hm_A w s.heap.size)) w 0 [(0, .int (iI (n)))] []
  refine hv_iconst E dX7_lowOf_0 rfl ?_
  refine hv_istore_n (lv2 := [(1, .int (iI (0))), (0, .int (iI (n)))]) E dX7_lowOf_1 rfl (by decide) rfl rfl ?_
  have LP : ∀ (k : Nat) (j : Int), (12 - j < (k : Int)) → (0 ≤ j) → (j ≤ 12) → (n * 2 ^ j.toNat ≤ 4096) → hm_V p l e (hm_rm 0 0 0) s m args below meth c D (hm_A w s.heap.size) 2 0 0 (MQ below (hm_Qi D w s.heap.size (fun r w2 => r = iI ((lw n.toNat : Nat) : Int) ∧ w2 = w)) args s 0 0 (hm_A w s.heap.size)) w 2 [(1, .int (iI (j))), (0, .int (iI (n)))] [] := by
    intro k
    induction k with
    | zero =>
      intro j hk g0 g1 hj
      exact absurd hk (by omega)
    | succ k ih =>
      intro j hk g0 g1 hj
      refine hv_iload_n E dX7_lowOf_2 rfl 1 rfl rfl ?_
      refine hv_iload_n E dX7_lowOf_3 rfl 0 rfl rfl ?_
      refine hv_iconst E dX7_lowOf_4 rfl ?_
      refine hv_iadd E dX7_lowOf_5 rfl ?_
      refine hv_ishlR E dX7_lowOf_6 rfl rfl ?_
      refine hv_topi (show (iI (n)) <<< ((iI (j + 1)) &&& 31) = iI (n * 2 ^ (j + 1).toNat) from iI_shlN n (by omega) (by omega)) ?_
      refine hv_sipush E dX7_lowOf_7 (by decide +kernel) rfl ?_
      have hp : (2 : Int) ^ (j + 1).toNat ≤ 2 ^ 13 := by exact_mod_cast Nat.pow_le_pow_right (n := 2) (by omega) (show (j + 1).toNat ≤ 13 by omega)
      have hp0 : (0 : Int) < 2 ^ (j + 1).toNat := Int.pow_pos (by omega)
      have hb1 : 0 ≤ n * 2 ^ (j + 1).toNat := Int.mul_nonneg (by omega) (by omega)
      have hb2 : n * 2 ^ (j + 1).toNat ≤ 4096 * 2 ^ 13 := Int.mul_le_mul h1 hp (by omega) (by omega)
      refine hv_icmp_gt E 19 dX7_lowOf_10 (by decide) ⟨by omega, by omega⟩ ⟨by omega, by omega⟩ rfl (fun c2 => ?_) (fun c2 => ?_)
      · refine hv_iload_n E dX7_lowOf_19 rfl 0 rfl rfl ?_
        exact hv_iret E dX7_lowOf_20 hr ⟨by
            rw [← lw_uq (n := n.toNat) (l := j.toNat) (by omega) (by omega) (by
              have : ((n.toNat * 2 ^ j.toNat : Nat) : Int) ≤ 4096 := by push_cast; rw [Int.toNat_of_nonneg (by omega)]; exact hj
              omega) (by
              have : (4096 : Int) < ((n.toNat * 2 ^ (j.toNat + 1) : Nat) : Int) := by push_cast; rw [Int.toNat_of_nonneg (by omega), show j.toNat + 1 = (j + 1).toNat by omega]; exact c2
              omega), Int.toNat_of_nonneg g0], rfl⟩
      · refine hv_iinc (lv2 := [(1, .int (iI (j + 1))), (0, .int (iI (n)))]) E dX7_lowOf_13 0 rfl rfl (by decide) rfl rfl ?_
        refine hv_goto E 2 dX7_lowOf_16 (by decide) ?_
        have hj12 : j + 1 ≤ 12 := by
          rcases (show j + 1 ≤ 12 ∨ j = 12 by omega) with q | q
          · exact q
          · exfalso
            rw [q, show ((12 : Int) + 1).toNat = 13 from rfl] at c2
            have : (1 : Int) * 2 ^ 13 ≤ n * 2 ^ 13 := Int.mul_le_mul_of_nonneg_right h0 (by omega)
            omega
        refine hv_sub (lv2 := [(1, .int (iI (j + 1))), (0, .int (iI (n)))]) [0, 1] rfl ?_
        exact ih (j + 1) (by omega) (by omega) hj12 c2
  refine hv_sub (lv2 := [(1, .int (iI (0))), (0, .int (iI (n)))]) [0, 1] rfl ?_
  exact LP 13 0 (by omega) (by omega) (by omega) (by simp; omega)
