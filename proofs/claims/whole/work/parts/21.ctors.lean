section HF
variable {p : Program} {l : Launch} {e : Env} {R : Room} {s : State} {m : MethodId} {args : Array Value} {below : List Frame} {meth : Method} {c : Code} {cells slots : Nat} {Q : State → Prop} {cc : ByteArray} {nL : Nat} {own : String} {D : va_G} {K : Nat → ClassId} {A : Nat → Prop} {w : hm_M} {pc pc2 : Nat} {lv : List (Nat × Value)} {st : List Value}
theorem hv_putF (E : hm_E p s m args meth c cc nL own D K A) {a ci N i kf : Nat} {C : String} {T : u_T} {ty0 : Nat → FieldType} {fs : List Value} {v : Value} (hin2 : meth.name = "<init>") (d : decode cc pc = .ok (.putfield i, 3)) (hc : vwCl[ci]? = some (C, T, N)) (hk : kf < N) (hw : ∀ w ∈ u_ws C T N, w ∈ hG) (hty : ∀ k, k < N → parseFieldDescriptor (T k).2.2.1 = some (ty0 k)) (hnm : ∀ a, a < N → ∀ b, b < N → a ≠ b → (T a).2.1 ≠ (T b).2.1) (hl : Cond.fieldLink own i own (T kf).2.1 (T kf).2.2.1 ∈ hG) (hr : (T kf).1 = own) (ha : w a = some (.inr (ci, fs))) (hfin : (T kf).2.2.2 = true) (hn : narrow (ty0 kf) v = v) (hfit : fits (ty0 kf) v = true) (hlen : kf < fs.length) (hp : pc + 3 = pc2) (k : hm_V p l e R s m args below meth c D A nL cells slots Q (hm_up w a (.inr (ci, fs.set kf v))) pc2 lv st) : hm_V p l e R s m args below meth c D A nL cells slots Q w pc lv (v :: .ref a :: st) := by
  subst hp
  intro H locs ls h1 h2 h3 h4
  have hts := E.2.2.2.2.1
  have hK := E.2.2.2.2.2.1.1
  have hap := va_apart (own := own) hts hw ty0 hty hnm hK hc
  obtain ⟨r, g1, cell, q1, q2, q3, q4⟩ := h1 a _ ha
  have hr9 : r = (C, T, N) := Option.some.inj (g1.symm.trans hc)
  subst hr9
  obtain ⟨hS, hfc, kC, hkC, hkind⟩ := hK.1 ci _ hc
  obtain ⟨cf, kff, fi, f, hi, hsl⟩ := hS kf hk
  have hlay := hts _ (hw _ (u_in_lay hk))
  unfold u_lay at hlay
  rw [if_pos hfin] at hlay
  have hst := (u_facts hfc hkC (u_lays hts hw hk) hi).1
  have hcf : m.cls = cf := by
    obtain ⟨_, _, c2, _, _, _, -, -, hf2, -, -, -, hown2, -⟩ := Cond.laysFinal_spec hlay
    have e1 : c2 = cf := by have := hi.symm.trans hf2; simp at this; exact this.1.symm
    rw [hr] at hown2
    rw [← e1]; exact Option.some.inj (E.2.2.2.1.symm.trans hown2)
  have h6 := u_fits hfc hkC hkind (Or.inr hlay) hi (hty kf hk) hn hfit
  refine W.putFinK E.1 E.2.1 E.2.2.2.1 (hts _ hl) (by rw [← hr]; exact hi) hst hcf hin2 (by rw [q2]; exact h6) q1 q3 (by rw [hsl]; exact k2_hasslot (q4 kf hk)) rfl rfl d fun H1 e1 e2 e3 => ?_
  rw [hsl] at e1 ⊢
  exact k H1 _ ls (h1.put ⟨_, hc, t_OB.to (V := updV (vp_V fs) kf v) ⟨_, e1, q2, q3, t_set q4 hap hk v⟩ (fun j _ => vp_updV_set hlen v j)⟩ e3) (hm_dom h2 (hm_some h2 ha)) (hm_Sput h3 e2 e3 (hm_some h2 ha)) h4
theorem hv_aastN (E : hm_E p s m args meth c cc nL own D K A) {a n v ci : Nat} {r : vw_C} {vs : List Value} {f : Nat → Option Nat} {i : Int} (d : decode cc pc = .ok (.aastore, 1)) (ha : w a = some (.inl (K 2, n, .inr (.inr (.inr (.inr f)))))) (hv : w v = some (.inr (ci, vs))) (hc : vwCl[ci]? = some r) (hrC : r.1 = "KeyRows$Numbers") (h0 : 0 ≤ i) (hn : i < (n : Int)) (hN : n < 2147483648) (hp : pc + 1 = pc2) (k : hm_V p l e R s m args below meth c D A nL cells slots Q (hm_up w a (.inl (K 2, n, .inr (.inr (.inr (.inr (va_up f i.toNat (some v)))))))) pc2 lv st) : hm_V p l e R s m args below meth c D A nL cells slots Q w pc lv (.ref v :: .int (iI i) :: .ref a :: st) := by
  subst hp
  intro H locs ls h1 h2 h3 h4
  have hcz : (iI i).toNatClampNeg = i.toNat := iI_cl h0 (by omega)
  have hin := iI_in h0 hn hN
  have hlt : (iI i).toNatClampNeg < n := Nat.not_le.mp fun q => hin (Or.inr q)
  have hz0 : ¬ iI i < 0 := fun q => hin (Or.inl q)
  obtain ⟨r9, hr9, cellV, g1, g2, g3, -⟩ := h1 v _ hv
  have hcls := (E.2.2.2.2.2.1.1.1 ci r hc).2
  obtain ⟨kA, comp, k1, k2, k3, -⟩ := (E.2.2.2.2.2.1.1.2 2 _ rfl).2
  have hcomp : comp = D.1 ci := Option.some.inj (k3.symm.trans (by rw [← hrC]; exact hcls.1))
  subst hcomp
  obtain ⟨kC, hkC, -⟩ := hcls.2
  refine W.aast E.1 E.2.1 (h1 a _ ha) (fun q h => by cases h) (fun h => by cases h) k1 k2 rfl hkC ⟨hz0, by show _ < (arrV _ _ _).slots.size; rw [arrV_size]; exact hlt⟩ g1 (fun q h => by rw [g3] at h; cases h) (by rw [g2]; exact hkC) (by rw [g2]; exact va_assign hcls) rfl rfl d fun H1 e z oq => ?_
  refine k H1 _ ls (h1.put ?_ oq) (hm_dom h2 (hm_some h2 ha)) (hm_Sput h3 z oq (hm_some h2 ha)) h4
  show H1[a]? = some (vp_cell _ _)
  rw [e, hcz, vp_cell_q, vp_cell_q, arrV_store]
  congr 2
  funext q
  by_cases hq : q = i.toNat
  · subst hq
    simp [updV, va_up, va_rf]
  · simp [updV, va_up, hq]
theorem hv_aastC (E : hm_E p s m args meth c cc nL own D K A) {a n v ci : Nat} {r : vw_C} {vs : List Value} {f : Nat → Option Nat} {i : Int} (d : decode cc pc = .ok (.aastore, 1)) (ha : w a = some (.inl (K 3, n, .inr (.inr (.inr (.inr f)))))) (hv : w v = some (.inr (ci, vs))) (hc : vwCl[ci]? = some r) (hca : ((r.1, "KeyRows$Code") : String × String) ∈ hNc) (h0 : 0 ≤ i) (hn : i < (n : Int)) (hN : n < 2147483648) (hp : pc + 1 = pc2) (k : hm_V p l e R s m args below meth c D A nL cells slots Q (hm_up w a (.inl (K 3, n, .inr (.inr (.inr (.inr (va_up f i.toNat (some v)))))))) pc2 lv st) : hm_V p l e R s m args below meth c D A nL cells slots Q w pc lv (.ref v :: .int (iI i) :: .ref a :: st) := by
  subst hp
  intro H locs ls h1 h2 h3 h4
  have hcz : (iI i).toNatClampNeg = i.toNat := iI_cl h0 (by omega)
  have hin := iI_in h0 hn hN
  have hlt : (iI i).toNatClampNeg < n := Nat.not_le.mp fun q => hin (Or.inr q)
  have hz0 : ¬ iI i < 0 := fun q => hin (Or.inl q)
  obtain ⟨r9, hr9, cellV, g1, g2, g3, -⟩ := h1 v _ hv
  have hcls := (E.2.2.2.2.2.1.1.1 ci r hc).2
  obtain ⟨kA, comp, k1, k2, k3, -⟩ := (E.2.2.2.2.2.1.1.2 3 _ rfl).2
  obtain ⟨kE, hkE, -⟩ := Vm.findClass_spec k3
  obtain ⟨c0, t1, f1, f2, f3⟩ := Cond.castable_spec (va_Nw.use (A := args) rfl (E.2.2.2.2.2.1.2.2.2.1 _ hca))
  cases hcls.1.symm.trans f1
  cases k3.symm.trans f2
  obtain ⟨kC, hkC, -⟩ := hcls.2
  refine W.aast E.1 E.2.1 (h1 a _ ha) (fun q h => by cases h) (fun h => by cases h) k1 k2 rfl hkE ⟨hz0, by show _ < (arrV _ _ _).slots.size; rw [arrV_size]; exact hlt⟩ g1 (fun q h => by rw [g3] at h; cases h) (by rw [g2]; exact hkC) (by rw [g2]; exact f3) rfl rfl d fun H1 e z oq => ?_
  refine k H1 _ ls (h1.put ?_ oq) (hm_dom h2 (hm_some h2 ha)) (hm_Sput h3 z oq (hm_some h2 ha)) h4
  show H1[a]? = some (vp_cell _ _)
  rw [e, hcz, vp_cell_q, vp_cell_q, arrV_store]
  congr 2
  funext q
  by_cases hq : q = i.toNat
  · subst hq
    simp [updV, va_up, va_rf]
  · simp [updV, va_up, hq]
end HF
set_option maxHeartbeats 4000000 in
set_option maxRecDepth 100000 in
theorem c0_init (l : Launch) (D : va_G) (K : Nat → ClassId) {w : hm_M} {a : Nat}  : hm_Cv l D K yX0_init cX0_init 1 1 [.ref (a)] w 0 0 (fun w2 => w2 = w) := by
  refine hm_enterV (by decide) (Nat.le_of_ble_eq_true rfl) ?_
  intro p e s m args below meth c E hr hnm
  show hm_V p l e (hm_rm 1 0 0) s m args below meth c D (hm_A w s.heap.size) 1 0 0 (MQ below (hm_Qv D w s.heap.size (fun w2 => w2 = w)) args s 0 0 (hm_A w s.heap.size)) w 0 [(0, .ref (a))] []
  refine hv_aload_n E dX0_init_0 rfl 0 rfl rfl ?_
  refine hv_objInit E dX0_init_1 gL_X0_1 (Nat.le_of_ble_eq_true rfl) ⟨Nat.le_of_ble_eq_true rfl, Nat.le_of_ble_eq_true rfl⟩ rfl ?_
  exact hv_vret E dX0_init_4 hr rfl
set_option maxHeartbeats 4000000 in
set_option maxRecDepth 100000 in
theorem c1_init (l : Launch) (D : va_G) (K : Nat → ClassId) {w : hm_M} {a : Nat}  : hm_Cv l D K yX1_init cX1_init 1 2 [.ref (a)] w 0 0 (fun w2 => w2 = w) := by
  refine hm_enterV (by decide) (Nat.le_of_ble_eq_true rfl) ?_
  intro p e s m args below meth c E hr hnm
  show hm_V p l e (hm_rm 2 0 0) s m args below meth c D (hm_A w s.heap.size) 1 0 0 (MQ below (hm_Qv D w s.heap.size (fun w2 => w2 = w)) args s 0 0 (hm_A w s.heap.size)) w 0 [(0, .ref (a))] []
  refine hv_aload_n E dX1_init_0 rfl 0 rfl rfl ?_
  refine hv_callIN (na := 0) (As := []) (st := []) E (c0_init l D K) dX1_init_1 gN_X1_3 rfl gI_X0_init gC_X0_init gZ_X0 (by decide +kernel) rfl ⟨Nat.le_of_ble_eq_true rfl, Nat.le_of_ble_eq_true rfl⟩ (Nat.le_of_ble_eq_true rfl) ⟨Nat.zero_le _, Nat.zero_le _⟩ rfl rfl (fun w2 hp => ?_)
  rw [hp]
  show hm_V p l e (hm_rm 2 0 0) s m args below meth c D (hm_A w s.heap.size) 1 0 0 (MQ below (hm_Qv D w s.heap.size (fun w2 => w2 = w)) args s 0 0 (hm_A w s.heap.size)) w 4 [(0, .ref (a))] []
  exact hv_vret E dX1_init_4 hr rfl
set_option maxHeartbeats 4000000 in
set_option maxRecDepth 100000 in
theorem c3_init (l : Launch) (D : va_G) (K : Nat → ClassId) {w : hm_M} {a : Nat}  : hm_Cv l D K yX3_init cX3_init 1 2 [.ref (a)] w 0 0 (fun w2 => w2 = w) := by
  refine hm_enterV (by decide) (Nat.le_of_ble_eq_true rfl) ?_
  intro p e s m args below meth c E hr hnm
  show hm_V p l e (hm_rm 2 0 0) s m args below meth c D (hm_A w s.heap.size) 1 0 0 (MQ below (hm_Qv D w s.heap.size (fun w2 => w2 = w)) args s 0 0 (hm_A w s.heap.size)) w 0 [(0, .ref (a))] []
  refine hv_aload_n E dX3_init_0 rfl 0 rfl rfl ?_
  refine hv_callIN (na := 0) (As := []) (st := []) E (c0_init l D K) dX3_init_1 gN_X3_3 rfl gI_X0_init gC_X0_init gZ_X0 (by decide +kernel) rfl ⟨Nat.le_of_ble_eq_true rfl, Nat.le_of_ble_eq_true rfl⟩ (Nat.le_of_ble_eq_true rfl) ⟨Nat.zero_le _, Nat.zero_le _⟩ rfl rfl (fun w2 hp => ?_)
  rw [hp]
  show hm_V p l e (hm_rm 2 0 0) s m args below meth c D (hm_A w s.heap.size) 1 0 0 (MQ below (hm_Qv D w s.heap.size (fun w2 => w2 = w)) args s 0 0 (hm_A w s.heap.size)) w 4 [(0, .ref (a))] []
  exact hv_vret E dX3_init_4 hr rfl
set_option maxHeartbeats 4000000 in
set_option maxRecDepth 100000 in
theorem c5_init (l : Launch) (D : va_G) (K : Nat → ClassId) {w : hm_M} {a : Nat}  : hm_Cv l D K yX5_init cX5_init 1 2 [.ref (a)] w 0 0 (fun w2 => w2 = w) := by
  refine hm_enterV (by decide) (Nat.le_of_ble_eq_true rfl) ?_
  intro p e s m args below meth c E hr hnm
  show hm_V p l e (hm_rm 2 0 0) s m args below meth c D (hm_A w s.heap.size) 1 0 0 (MQ below (hm_Qv D w s.heap.size (fun w2 => w2 = w)) args s 0 0 (hm_A w s.heap.size)) w 0 [(0, .ref (a))] []
  refine hv_aload_n E dX5_init_0 rfl 0 rfl rfl ?_
  refine hv_callIN (na := 0) (As := []) (st := []) E (c0_init l D K) dX5_init_1 gN_X5_3 rfl gI_X0_init gC_X0_init gZ_X0 (by decide +kernel) rfl ⟨Nat.le_of_ble_eq_true rfl, Nat.le_of_ble_eq_true rfl⟩ (Nat.le_of_ble_eq_true rfl) ⟨Nat.zero_le _, Nat.zero_le _⟩ rfl rfl (fun w2 hp => ?_)
  rw [hp]
  show hm_V p l e (hm_rm 2 0 0) s m args below meth c D (hm_A w s.heap.size) 1 0 0 (MQ below (hm_Qv D w s.heap.size (fun w2 => w2 = w)) args s 0 0 (hm_A w s.heap.size)) w 4 [(0, .ref (a))] []
  exact hv_vret E dX5_init_4 hr rfl
set_option maxHeartbeats 4000000 in
set_option maxRecDepth 100000 in
theorem c2_init (l : Launch) (D : va_G) (K : Nat → ClassId) {w : hm_M} {a : Nat} (ha : w a = some (.inr (1, [.null])))  : hm_Cv l D K yX2_init cX2_init 1 1 [.ref (a)] w 1 128 (fun w2 => ∃ q : Nat, w q = none ∧ w2 = hm_up (hm_up w q (.inl (K 0, 128, .inl (fun _ => 0)))) a (.inr (1, [.ref q]))) := by
  refine hm_enterV (by decide) (Nat.le_of_ble_eq_true rfl) ?_
  intro p e s m args below meth c E hr hnm
  show hm_V p l e (hm_rm 1 1 128) s m args below meth c D (hm_A w s.heap.size) 1 0 0 (MQ below (hm_Qv D w s.heap.size (fun w2 => ∃ q : Nat, w q = none ∧ w2 = hm_up (hm_up w q (.inl (K 0, 128, .inl (fun _ => 0)))) a (.inr (1, [.ref q])))) args s 1 128 (hm_A w s.heap.size)) w 0 [(0, .ref (a))] []
  refine hv_aload_n E dX2_init_0 rfl 0 rfl rfl ?_
  refine hv_objInit E dX2_init_1 gL_X2_3 (Nat.le_of_ble_eq_true rfl) ⟨Nat.le_of_ble_eq_true rfl, Nat.le_of_ble_eq_true rfl⟩ rfl ?_
  refine hv_aload_n E dX2_init_4 rfl 0 rfl rfl ?_
  refine hv_sipush E dX2_init_5 (by decide +kernel) rfl ?_
  refine hv_newaI (z := 128) E dX2_init_8 (by omega) (by omega) (by decide) (by decide) rfl (fun q9 hqq9 hsq9 => ?_)
  show hm_V p l e (hm_rm 1 1 128) s m args below meth c D (hm_A w s.heap.size) 1 1 128 (MQ below (hm_Qv D w s.heap.size (fun w2 => ∃ q : Nat, w q = none ∧ w2 = hm_up (hm_up w q (.inl (K 0, 128, .inl (fun _ => 0)))) a (.inr (1, [.ref q])))) args s 1 128 (hm_A w s.heap.size)) (hm_up w q9 (.inl (K 0, 128, .inl (fun _ => 0)))) 10 [(0, .ref (a))] [.ref (q9), .ref (a)]
  have ha2 : (hm_up w q9 (.inl (K 0, 128, .inl (fun _ => 0)))) a = some (.inr (1, [.null])) := by rw [hm_un (fun z => by rw [z, hqq9] at ha; cases ha)]; exact ha
  refine hv_putF (kf := 0) (ty0 := tyX2) E hnm dX2_init_10 (show vwCl[1]? = some (RX2, TX2, 1) from rfl) (by decide) gW_X2 tyX2_ok nmX2 gF_X2_9 rfl ha2 rfl rfl rfl (Nat.le_of_ble_eq_true rfl) rfl ?_
  show hm_V p l e (hm_rm 1 1 128) s m args below meth c D (hm_A w s.heap.size) 1 1 128 (MQ below (hm_Qv D w s.heap.size (fun w2 => ∃ q : Nat, w q = none ∧ w2 = hm_up (hm_up w q (.inl (K 0, 128, .inl (fun _ => 0)))) a (.inr (1, [.ref q])))) args s 1 128 (hm_A w s.heap.size)) (hm_up (hm_up w q9 (.inl (K 0, 128, .inl (fun _ => 0)))) a (.inr (1, [.ref q9]))) 13 [(0, .ref (a))] []
  exact hv_vret E dX2_init_13 hr ⟨q9, hqq9, rfl⟩
set_option maxHeartbeats 4000000 in
set_option maxRecDepth 100000 in
theorem c4_init (l : Launch) (D : va_G) (K : Nat → ClassId) {w : hm_M} {a : Nat} (ha : w a = some (.inr (3, [.null, .int 0, .int 0])))  : hm_Cv l D K yX4_init cX4_init 1 1 [.ref (a)] w 1 257 (fun w2 => ∃ q : Nat, w q = none ∧ w2 = tM K w a q (fun _ => 0) 0 0) := by
  refine hm_enterV (by decide) (Nat.le_of_ble_eq_true rfl) ?_
  intro p e s m args below meth c E hr hnm
  show hm_V p l e (hm_rm 1 1 257) s m args below meth c D (hm_A w s.heap.size) 1 0 0 (MQ below (hm_Qv D w s.heap.size (fun w2 => ∃ q : Nat, w q = none ∧ w2 = tM K w a q (fun _ => 0) 0 0)) args s 1 257 (hm_A w s.heap.size)) w 0 [(0, .ref (a))] []
  refine hv_aload_n E dX4_init_0 rfl 0 rfl rfl ?_
  refine hv_objInit E dX4_init_1 gL_X4_3 (Nat.le_of_ble_eq_true rfl) ⟨Nat.le_of_ble_eq_true rfl, Nat.le_of_ble_eq_true rfl⟩ rfl ?_
  refine hv_aload_n E dX4_init_4 rfl 0 rfl rfl ?_
  refine hv_sipush E dX4_init_5 (by decide +kernel) rfl ?_
  refine hv_newaI (z := 257) E dX4_init_8 (by omega) (by omega) (by decide) (by decide) rfl (fun q9 hqq9 hsq9 => ?_)
  show hm_V p l e (hm_rm 1 1 257) s m args below meth c D (hm_A w s.heap.size) 1 1 257 (MQ below (hm_Qv D w s.heap.size (fun w2 => ∃ q : Nat, w q = none ∧ w2 = tM K w a q (fun _ => 0) 0 0)) args s 1 257 (hm_A w s.heap.size)) (hm_up w q9 (.inl (K 0, 257, .inl (fun _ => 0)))) 10 [(0, .ref (a))] [.ref (q9), .ref (a)]
  have ha2 : (hm_up w q9 (.inl (K 0, 257, .inl (fun _ => 0)))) a = some (.inr (3, [.null, .int 0, .int 0])) := by rw [hm_un (fun z => by rw [z, hqq9] at ha; cases ha)]; exact ha
  refine hv_putF (kf := 0) (ty0 := tyX4) E hnm dX4_init_10 (show vwCl[3]? = some (RX4, TX4, 3) from rfl) (by decide) gW_X4 tyX4_ok nmX4 gF_X4_9 rfl ha2 rfl rfl rfl (Nat.le_of_ble_eq_true rfl) rfl ?_
  show hm_V p l e (hm_rm 1 1 257) s m args below meth c D (hm_A w s.heap.size) 1 1 257 (MQ below (hm_Qv D w s.heap.size (fun w2 => ∃ q : Nat, w q = none ∧ w2 = tM K w a q (fun _ => 0) 0 0)) args s 1 257 (hm_A w s.heap.size)) (hm_up (hm_up w q9 (.inl (K 0, 257, .inl (fun _ => 0)))) a (.inr (3, [.ref q9, .int 0, .int 0]))) 13 [(0, .ref (a))] []
  refine hv_aload_n E dX4_init_13 rfl 0 rfl rfl ?_
  refine hv_iconst E dX4_init_14 rfl ?_
  refine hv_put (kf := 1) (ty0 := tyX4) E dX4_init_15 (show vwCl[3]? = some (RX4, TX4, 3) from rfl) (by decide) gW_X4 tyX4_ok nmX4 gF_X4_15 rfl hm_us rfl rfl rfl (Nat.le_of_ble_eq_true rfl) rfl ?_
  show hm_V p l e (hm_rm 1 1 257) s m args below meth c D (hm_A w s.heap.size) 1 1 257 (MQ below (hm_Qv D w s.heap.size (fun w2 => ∃ q : Nat, w q = none ∧ w2 = tM K w a q (fun _ => 0) 0 0)) args s 1 257 (hm_A w s.heap.size)) (hm_up (hm_up (hm_up w q9 (.inl (K 0, 257, .inl (fun _ => 0)))) a (.inr (3, [.ref q9, .int 0, .int 0]))) a (.inr (3, [.ref q9, .int (iI 0), .int 0]))) 18 [(0, .ref (a))] []
  refine hv_aload_n E dX4_init_18 rfl 0 rfl rfl ?_
  refine hv_iconst E dX4_init_19 rfl ?_
  refine hv_put (kf := 2) (ty0 := tyX4) E dX4_init_20 (show vwCl[3]? = some (RX4, TX4, 3) from rfl) (by decide) gW_X4 tyX4_ok nmX4 gF_X4_19 rfl hm_us rfl rfl rfl (Nat.le_of_ble_eq_true rfl) rfl ?_
  show hm_V p l e (hm_rm 1 1 257) s m args below meth c D (hm_A w s.heap.size) 1 1 257 (MQ below (hm_Qv D w s.heap.size (fun w2 => ∃ q : Nat, w q = none ∧ w2 = tM K w a q (fun _ => 0) 0 0)) args s 1 257 (hm_A w s.heap.size)) (hm_up (hm_up (hm_up (hm_up w q9 (.inl (K 0, 257, .inl (fun _ => 0)))) a (.inr (3, [.ref q9, .int 0, .int 0]))) a (.inr (3, [.ref q9, .int (iI 0), .int 0]))) a (.inr (3, [.ref q9, .int (iI 0), .int (iI 0)]))) 23 [(0, .ref (a))] []
  exact hv_vret E dX4_init_23 hr ⟨q9, hqq9, by unfold tM; rw [hm_uu, hm_uu]⟩
set_option maxHeartbeats 4000000 in
set_option maxRecDepth 100000 in
theorem c7_init (l : Launch) (D : va_G) (K : Nat → ClassId) {w : hm_M} {a : Nat} (ha : w a = some (.inr (6, [.null, .null, .int 0, .int 0, .int 0, .int 0, .int 0])))  : hm_Cv l D K yX7_init cX7_init 1 1 [.ref (a)] w 2 45074 (fun w2 => ∃ ia ta : Nat, w ia = none ∧ w ta = none ∧ mAt K w2 a ia ta (fun _ => false) (fun _ => false) 0 0 0 false 0 ∧ ∀ z, z ≠ a → z ≠ ia → z ≠ ta → w2 z = w z) := by
  refine hm_enterV (by decide) (Nat.le_of_ble_eq_true rfl) ?_
  intro p e s m args below meth c E hr hnm
  show hm_V p l e (hm_rm 1 2 45074) s m args below meth c D (hm_A w s.heap.size) 1 0 0 (MQ below (hm_Qv D w s.heap.size (fun w2 => ∃ ia ta : Nat, w ia = none ∧ w ta = none ∧ mAt K w2 a ia ta (fun _ => false) (fun _ => false) 0 0 0 false 0 ∧ ∀ z, z ≠ a → z ≠ ia → z ≠ ta → w2 z = w z)) args s 2 45074 (hm_A w s.heap.size)) w 0 [(0, .ref (a))] []
  refine hv_aload_n E dX7_init_0 rfl 0 rfl rfl ?_
  refine hv_objInit E dX7_init_1 gL_X7_1 (Nat.le_of_ble_eq_true rfl) ⟨Nat.le_of_ble_eq_true rfl, Nat.le_of_ble_eq_true rfl⟩ rfl ?_
  refine hv_aload_n E dX7_init_4 rfl 0 rfl rfl ?_
  refine hv_ldc E dX7_init_5 gK_X7_7 rfl ?_
  refine hv_topi (show (36864 : Int32) = iI (36864) from (by decide +kernel)) ?_
  refine hv_newaZ (z := 36864) E dX7_init_7 (by omega) (by omega) (by decide) (by decide) rfl (fun q8 hqq8 hsq8 => ?_)
  show hm_V p l e (hm_rm 1 2 45074) s m args below meth c D (hm_A w s.heap.size) 1 1 36864 (MQ below (hm_Qv D w s.heap.size (fun w2 => ∃ ia ta : Nat, w ia = none ∧ w ta = none ∧ mAt K w2 a ia ta (fun _ => false) (fun _ => false) 0 0 0 false 0 ∧ ∀ z, z ≠ a → z ≠ ia → z ≠ ta → w2 z = w z)) args s 2 45074 (hm_A w s.heap.size)) (hm_up w q8 (.inl (K 1, 36864, .inl (fun _ => bI false)))) 9 [(0, .ref (a))] [.ref (q8), .ref (a)]
  have ha2 : (hm_up w q8 (.inl (K 1, 36864, .inl (fun _ => bI false)))) a = some (.inr (6, [.null, .null, .int 0, .int 0, .int 0, .int 0, .int 0])) := by rw [hm_un (fun z => by rw [z, hqq8] at ha; cases ha)]; exact ha
  refine hv_putF (kf := 0) (ty0 := tyX7) E hnm dX7_init_9 (show vwCl[6]? = some (RX7, TX7, 7) from rfl) (by decide) gW_X7 tyX7_ok nmX7 gF_X7_8 rfl ha2 rfl rfl rfl (Nat.le_of_ble_eq_true rfl) rfl ?_
  show hm_V p l e (hm_rm 1 2 45074) s m args below meth c D (hm_A w s.heap.size) 1 1 36864 (MQ below (hm_Qv D w s.heap.size (fun w2 => ∃ ia ta : Nat, w ia = none ∧ w ta = none ∧ mAt K w2 a ia ta (fun _ => false) (fun _ => false) 0 0 0 false 0 ∧ ∀ z, z ≠ a → z ≠ ia → z ≠ ta → w2 z = w z)) args s 2 45074 (hm_A w s.heap.size)) (hm_up (hm_up w q8 (.inl (K 1, 36864, .inl (fun _ => bI false)))) a (.inr (6, [.ref q8, .null, .int 0, .int 0, .int 0, .int 0, .int 0]))) 12 [(0, .ref (a))] []
  refine hv_aload_n E dX7_init_12 rfl 0 rfl rfl ?_
  refine hv_sipush E dX7_init_13 (by decide +kernel) rfl ?_
  refine hv_newaZ (z := 8210) E dX7_init_16 (by omega) (by omega) (by decide) (by decide) rfl (fun q9 hqq9 hsq9 => ?_)
  show hm_V p l e (hm_rm 1 2 45074) s m args below meth c D (hm_A w s.heap.size) 1 2 45074 (MQ below (hm_Qv D w s.heap.size (fun w2 => ∃ ia ta : Nat, w ia = none ∧ w ta = none ∧ mAt K w2 a ia ta (fun _ => false) (fun _ => false) 0 0 0 false 0 ∧ ∀ z, z ≠ a → z ≠ ia → z ≠ ta → w2 z = w z)) args s 2 45074 (hm_A w s.heap.size)) (hm_up (hm_up (hm_up w q8 (.inl (K 1, 36864, .inl (fun _ => bI false)))) a (.inr (6, [.ref q8, .null, .int 0, .int 0, .int 0, .int 0, .int 0]))) q9 (.inl (K 1, 8210, .inl (fun _ => bI false)))) 18 [(0, .ref (a))] [.ref (q9), .ref (a)]
  have hne : a ≠ q9 := fun z => by rw [← z, hm_us] at hqq9; cases hqq9
  have hne8 : q8 ≠ q9 := fun z => by rw [← z, hm_un (fun y => by rw [y, ha] at hqq8; cases hqq8), hm_us] at hqq9; cases hqq9
  have hn8 : q8 ≠ a := fun y => by rw [y, ha] at hqq8; cases hqq8
  have ha3 : (hm_up (hm_up (hm_up w q8 (.inl (K 1, 36864, .inl (fun _ => bI false)))) a (.inr (6, [.ref q8, .null, .int 0, .int 0, .int 0, .int 0, .int 0]))) q9 (.inl (K 1, 8210, .inl (fun _ => bI false)))) a = some (.inr (6, [.ref q8, .null, .int 0, .int 0, .int 0, .int 0, .int 0])) := by rw [hm_un hne, hm_us]
  refine hv_putF (kf := 1) (ty0 := tyX7) E hnm dX7_init_18 (show vwCl[6]? = some (RX7, TX7, 7) from rfl) (by decide) gW_X7 tyX7_ok nmX7 gF_X7_14 rfl ha3 rfl rfl rfl (Nat.le_of_ble_eq_true rfl) rfl ?_
  show hm_V p l e (hm_rm 1 2 45074) s m args below meth c D (hm_A w s.heap.size) 1 2 45074 (MQ below (hm_Qv D w s.heap.size (fun w2 => ∃ ia ta : Nat, w ia = none ∧ w ta = none ∧ mAt K w2 a ia ta (fun _ => false) (fun _ => false) 0 0 0 false 0 ∧ ∀ z, z ≠ a → z ≠ ia → z ≠ ta → w2 z = w z)) args s 2 45074 (hm_A w s.heap.size)) (hm_up (hm_up (hm_up (hm_up w q8 (.inl (K 1, 36864, .inl (fun _ => bI false)))) a (.inr (6, [.ref q8, .null, .int 0, .int 0, .int 0, .int 0, .int 0]))) q9 (.inl (K 1, 8210, .inl (fun _ => bI false)))) a (.inr (6, [.ref q8, .ref q9, .int 0, .int 0, .int 0, .int 0, .int 0]))) 21 [(0, .ref (a))] []
  exact hv_vret E dX7_init_21 hr ⟨q8, q9, hqq8, by rw [hm_un (Ne.symm hne), hm_un (Ne.symm hne8)] at hqq9; exact hqq9, ⟨hm_us, by rw [hm_un hn8, hm_un hne8, hm_un hn8, hm_us], by rw [hm_un (Ne.symm hne), hm_us]⟩, fun z z1 z2 z3 => by rw [hm_un z1, hm_un z3, hm_un z1, hm_un z2]⟩
