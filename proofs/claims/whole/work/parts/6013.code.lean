set_option maxHeartbeats 8000000 in
set_option maxRecDepth 100000 in
theorem c_M_workOut (l : Launch) (dC : Nat → ClassId) (dI : Nat → Nat → Nat) (cy : Nat → ClassId) (ad : Nat → Nat) (sz : Nat) (N : Nat) (iM : Nat → Int32) (aM : Nat → Nat → Int32) (q : (Nat → Int32) × (Nat → Nat → Int32)) (h : f_M_workOut N iM aM = some q) : Met l yX8_workOut wsX8_workOut ({ frames := 4, cells := 0, slots := 0, locals := 100 } : Room) (cP (dC, dI) cy [.ref (ad 0)] (zzM ad cy iM aM) sz) (cQv (dC, dI) cy (zzM ad cy q.1 q.2) (va_A (zzM ad cy iM aM) sz)) 0 0 (va_A (zzM ad cy iM aM) sz) := by
  refine Met.ofW (cc := cX8_workOut) (maxL := 1) (ret := none) (by decide) rfl ?_
  intro p e s m args below meth c s₁ B hml hv
  obtain ⟨hav, hsz, hP, hK, hD0, hN⟩ := hv
  have hx := B.exec
  have hb := B.bytes
  have hr := B.returns
  have hts := atoms_spec (ws := wsX8_workOut) B.pre
  have hown : s.vm.findClass RX8 = some m.cls := findClass_of_methodNamed B.named
  have hlocks := B.notSynchronized
  subst hsz
  have hD := hD0.self (sz := s.heap.size)
  generalize hAe : va_A (zzM ad cy iM aM) s.heap.size = A at hD ⊢
  have hA : ∀ q : Nat, s.heap.size ≤ q → A q := fun q h => by rw [← hAe]; exact Or.inr h
  have hS : va_S A s.heap s.heap [] := va_S.rf
  generalize hWQ : (zzM ad cy q.1 q.2) = WQ
  generalize hQQ : MQ below (cQv (dC, dI) cy WQ A) args s 0 0 A = QQ
  have hl := lv_entry ([.ref (ad 0)] : List Value) (n := 1) (Nat.le_of_ble_eq_true rfl)
  have hfr := lg_entry_eq m ([.ref (ad 0)] : List Value) 1
  rw [← hav] at hfr
  rw [hfr]
  clear hfr hav
  generalize (lg_sl ([.ref (ad 0)] : List Value) ++ List.replicate (1 - (lg_sl ([.ref (ad 0)] : List Value)).length) Slot.unset).toArray = ls at hl ⊢
  have hl : lv_has ls 1 [(0, .ref (ad 0))] := hl
  refine (?_ : ∀ (H : Heap) (locs : List Loc), va_P (dC, dI) vwCl (zzM ad cy iM aM) H → va_D A (zzM ad cy iM aM) → va_S A s.heap H locs → W p l e ({ frames := 4, cells := 0, slots := 0, locals := 100 } : Room) s m args below meth c H locs 0 0 QQ (F0 m 0 ls [])) s.heap [] hP hD hS
  clear hP hD hS
  intro H locs hP hD hS
  unfold f_M_workOut at h
  refine lv_aload_n hx hb dX8_workOut_0 rfl (lv_at hl 0 rfl) ?_
  obtain ⟨q1, e1, h⟩ := g_b h
  refine callVvs (cc := cX8_workOut) (w1 := zzM ad cy iM (us aM [(57, q1.1), (58, q1.2.1), (59, q1.2.2.1), (60, q1.2.2.2)])) (As := []) (rest := []) ⟨hx, hb, hml, hown, hts⟩ (c_M_findTruths l dC dI cy ad H.size N iM aM q1 e1) (cwV 0 hts (goodV m_ml_X8_395 m_im_X8_findTruths m_se_X8_findTruths m_in_X8 m_cd_X8_findTruths) rfl rfl rfl (by decide +kernel) ⟨Nat.le_of_ble_eq_true rfl, Nat.le_of_ble_eq_true rfl⟩) hN hK hP hD hS hA rfl 0 rfl rfl rfl hl.1 rfl (Nat.le_of_ble_eq_true rfl) dX8_workOut_1 ⟨Nat.zero_le _, Nat.zero_le _⟩ (fun H locs hP hD hS => ?_)
  refine lv_aload_n hx hb dX8_workOut_4 rfl (lv_at hl 0 rfl) ?_
  refine lv_iconst (v := 0) hx hb dX8_workOut_5 (by decide) ?_
  refine lv_iconst (v := 1) hx hb dX8_workOut_6 (by decide) ?_
  obtain ⟨q7, e7, h⟩ := g_b h
  refine callVvs (cc := cX8_workOut) (w1 := zzM ad cy (us iM [(64, q7.1), (65, q7.2.1)]) (us aM [(57, q1.1), (58, q1.2.1), (59, q1.2.2.1), (60, q1.2.2.2), (61, q7.2.2.1), (62, q7.2.2.2.1), (63, q7.2.2.2.2)])) (As := [.int ((0 : Int32)), .int ((1 : Int32))]) (rest := []) ⟨hx, hb, hml, hown, hts⟩ (c_M_sift l dC dI cy ad H.size N ((0 : Int32)) ((1 : Int32)) iM ((us aM [(57, q1.1), (58, q1.2.1), (59, q1.2.2.1), (60, q1.2.2.2)])) q7 e7) (cwV 2 hts (goodV m_ml_X8_398 m_im_X8_sift m_se_X8_sift m_in_X8 m_cd_X8_sift) rfl rfl rfl (by decide +kernel) ⟨Nat.le_of_ble_eq_true rfl, Nat.le_of_ble_eq_true rfl⟩) hN hK hP hD hS hA rfl 0 rfl rfl rfl hl.1 rfl (Nat.le_of_ble_eq_true rfl) dX8_workOut_7 ⟨Nat.zero_le _, Nat.zero_le _⟩ (fun H locs hP hD hS => ?_)
  have h' := Option.some.inj h
  rw [← hQQ]
  exact W.vret hx hb hr (fun t ht hW => ⟨⟨(), rfl, trivial, by rw [← hWQ, ← h', ht]; exact hP, va_K.moved hW.alike hK⟩, hS.F ht⟩) hS.2.2 dX8_workOut_10
set_option maxHeartbeats 8000000 in
set_option maxRecDepth 100000 in
theorem c_M_moved (l : Launch) (dC : Nat → ClassId) (dI : Nat → Nat → Nat) (cy : Nat → ClassId) (ad : Nat → Nat) (sz : Nat) (a0 : Int32) (q : Int32) (h : f_M_moved a0 = some q) : Met l yX8_moved wsX8_moved ({ frames := 0, cells := 0, slots := 0, locals := 0 } : Room) (cP (dC, dI) cy [.int a0] (zzE ad cy) sz) (cQi (dC, dI) cy q (zzE ad cy) (va_A (zzE ad cy) sz)) 0 0 (va_A (zzE ad cy) sz) := by
  refine Met.ofW (cc := cX8_moved) (maxL := 1) (ret := (some .int)) (by decide) rfl ?_
  intro p e s m args below meth c s₁ B hml hv
  obtain ⟨hav, hsz, hP, hK, hD0, hN⟩ := hv
  have hx := B.exec
  have hb := B.bytes
  have hr := B.returns
  have hts := atoms_spec (ws := wsX8_moved) B.pre
  have hown : s.vm.findClass RX8 = some m.cls := findClass_of_methodNamed B.named
  have hlocks := B.notSynchronized
  subst hsz
  have hD := hD0.self (sz := s.heap.size)
  generalize hAe : va_A (zzE ad cy) s.heap.size = A at hD ⊢
  have hA : ∀ q : Nat, s.heap.size ≤ q → A q := fun q h => by rw [← hAe]; exact Or.inr h
  have hS : va_S A s.heap s.heap [] := va_S.rf
  generalize hWQ : (zzE ad cy) = WQ
  generalize hQQ : MQ below (cQi (dC, dI) cy q WQ A) args s 0 0 A = QQ
  have hl := lv_entry ([.int a0] : List Value) (n := 1) (Nat.le_of_ble_eq_true rfl)
  have hfr := lg_entry_eq m ([.int a0] : List Value) 1
  rw [← hav] at hfr
  rw [hfr]
  clear hfr hav
  generalize (lg_sl ([.int a0] : List Value) ++ List.replicate (1 - (lg_sl ([.int a0] : List Value)).length) Slot.unset).toArray = ls at hl ⊢
  have hl : lv_has ls 1 [(0, .int a0)] := hl
  refine (?_ : ∀ (H : Heap) (locs : List Loc), va_P (dC, dI) vwCl (zzE ad cy) H → va_D A (zzE ad cy) → va_S A s.heap H locs → W p l e ({ frames := 0, cells := 0, slots := 0, locals := 0 } : Room) s m args below meth c H locs 0 0 QQ (F0 m 0 ls [])) s.heap [] hP hD hS
  clear hP hD hS
  intro H locs hP hD hS
  unfold f_M_moved at h
  refine lv_iload_n hx hb dX8_moved_0 rfl (lv_at hl 0 rfl) ?_
  refine lv_sipush (v := 200) hx hb dX8_moved_1 (by decide) ?_
  refine lv_icmp_ge (tgt := 11) hx hb dX8_moved_4 (by decide) (fun cz => ?_) (fun cz => ?_)
  · have h := g_t h cz
    refine lv_iload_n hx hb dX8_moved_11 rfl (lv_at hl 0 rfl) ?_
    refine lv_sipush (v := 200) hx hb dX8_moved_12 (by decide) ?_
    refine lv_isub hx hb dX8_moved_15 ?_
    have h' := Option.some.inj h
    rw [← hQQ]
    exact W.iret (v := (a0 - (200 : Int32))) hx hb hr (fun t ht hW => ⟨⟨(a0 - (200 : Int32)), (), rfl, by rw [← h'], by rw [← hWQ, ht]; exact hP, va_K.moved hW.alike hK⟩, hS.F ht⟩) hS.2.2 dX8_moved_16
  · have h := g_f h cz
    refine lv_iload_n hx hb dX8_moved_7 rfl (lv_at hl 0 rfl) ?_
    refine lv_goto (tgt := 16) hx hb dX8_moved_8 (by decide) ?_
    have h' := Option.some.inj h
    rw [← hQQ]
    exact W.iret (v := a0) hx hb hr (fun t ht hW => ⟨⟨a0, (), rfl, by rw [← h'], by rw [← hWQ, ht]; exact hP, va_K.moved hW.alike hK⟩, hS.F ht⟩) hS.2.2 dX8_moved_16
set_option maxHeartbeats 8000000 in
set_option maxRecDepth 100000 in
theorem c_M_become (l : Launch) (dC : Nat → ClassId) (dI : Nat → Nat → Nat) (cy : Nat → ClassId) (ad : Nat → Nat) (sz : Nat) (N : Nat) (iM : Nat → Int32) (aM : Nat → Nat → Int32) (q : (Nat → Int32) × (Nat → Nat → Int32)) (h : f_M_become N iM aM = some q) : Met l yX8_become wsX8_become ({ frames := 5, cells := 0, slots := 0, locals := 120 } : Room) (cP (dC, dI) cy [.ref (ad 0)] (zzM ad cy iM aM) sz) (cQv (dC, dI) cy (zzM ad cy q.1 q.2) (va_A (zzM ad cy iM aM) sz)) 0 0 (va_A (zzM ad cy iM aM) sz) := by
  refine Met.ofW (cc := cX8_become) (maxL := 3) (ret := none) (by decide) rfl ?_
  intro p e s m args below meth c s₁ B hml hv
  obtain ⟨hav, hsz, hP, hK, hD0, hN⟩ := hv
  have hx := B.exec
  have hb := B.bytes
  have hr := B.returns
  have hts := atoms_spec (ws := wsX8_become) B.pre
  have hown : s.vm.findClass RX8 = some m.cls := findClass_of_methodNamed B.named
  have hlocks := B.notSynchronized
  subst hsz
  have hD := hD0.self (sz := s.heap.size)
  generalize hAe : va_A (zzM ad cy iM aM) s.heap.size = A at hD ⊢
  have hA : ∀ q : Nat, s.heap.size ≤ q → A q := fun q h => by rw [← hAe]; exact Or.inr h
  have hS : va_S A s.heap s.heap [] := va_S.rf
  generalize hWQ : (zzM ad cy q.1 q.2) = WQ
  generalize hQQ : MQ below (cQv (dC, dI) cy WQ A) args s 0 0 A = QQ
  have hl := lv_entry ([.ref (ad 0)] : List Value) (n := 3) (Nat.le_of_ble_eq_true rfl)
  have hfr := lg_entry_eq m ([.ref (ad 0)] : List Value) 3
  rw [← hav] at hfr
  rw [hfr]
  clear hfr hav
  generalize (lg_sl ([.ref (ad 0)] : List Value) ++ List.replicate (3 - (lg_sl ([.ref (ad 0)] : List Value)).length) Slot.unset).toArray = ls at hl ⊢
  have hl : lv_has ls 3 [(0, .ref (ad 0))] := hl
  have kf24 := hts _ (List.mem_cons_of_mem _ m_fl_X8_24)
  have ki8 := (fun w h => List.mem_cons_of_mem _ (i_X8 w h) : ∀ w ∈ u_ws RX8 TX8 78, w ∈ wsX8_become)
  have kf27 := hts _ (List.mem_cons_of_mem _ m_fl_X8_27)
  have kf33 := hts _ (List.mem_cons_of_mem _ m_fl_X8_33)
  have kf356 := hts _ (List.mem_cons_of_mem _ m_fl_X8_356)
  have kf359 := hts _ (List.mem_cons_of_mem _ m_fl_X8_359)
  have kf362 := hts _ (List.mem_cons_of_mem _ m_fl_X8_362)
  have kf67 := hts _ (List.mem_cons_of_mem _ m_fl_X8_67)
  have kf73 := hts _ (List.mem_cons_of_mem _ m_fl_X8_73)
  have kf76 := hts _ (List.mem_cons_of_mem _ m_fl_X8_76)
  have kf79 := hts _ (List.mem_cons_of_mem _ m_fl_X8_79)
  have kf82 := hts _ (List.mem_cons_of_mem _ m_fl_X8_82)
  have kf60 := hts _ (List.mem_cons_of_mem _ m_fl_X8_60)
  have kf63 := hts _ (List.mem_cons_of_mem _ m_fl_X8_63)
  have kf54 := hts _ (List.mem_cons_of_mem _ m_fl_X8_54)
  have kf57 := hts _ (List.mem_cons_of_mem _ m_fl_X8_57)
  have kf51 := hts _ (List.mem_cons_of_mem _ m_fl_X8_51)
  have kf45 := hts _ (List.mem_cons_of_mem _ m_fl_X8_45)
  have kf48 := hts _ (List.mem_cons_of_mem _ m_fl_X8_48)
  have kf338 := hts _ (List.mem_cons_of_mem _ m_fl_X8_338)
  have kf311 := hts _ (List.mem_cons_of_mem _ m_fl_X8_311)
  have kf341 := hts _ (List.mem_cons_of_mem _ m_fl_X8_341)
  have kf305 := hts _ (List.mem_cons_of_mem _ m_fl_X8_305)
  have kf344 := hts _ (List.mem_cons_of_mem _ m_fl_X8_344)
  have kf214 := hts _ (List.mem_cons_of_mem _ m_fl_X8_214)
  have kf347 := hts _ (List.mem_cons_of_mem _ m_fl_X8_347)
  have kf221 := hts _ (List.mem_cons_of_mem _ m_fl_X8_221)
  have kf350 := hts _ (List.mem_cons_of_mem _ m_fl_X8_350)
  have kf234 := hts _ (List.mem_cons_of_mem _ m_fl_X8_234)
  have kf353 := hts _ (List.mem_cons_of_mem _ m_fl_X8_353)
  have kf36 := hts _ (List.mem_cons_of_mem _ m_fl_X8_36)
  have kf39 := hts _ (List.mem_cons_of_mem _ m_fl_X8_39)
  have kf42 := hts _ (List.mem_cons_of_mem _ m_fl_X8_42)
  have kf332 := hts _ (List.mem_cons_of_mem _ m_fl_X8_332)
  have kf295 := hts _ (List.mem_cons_of_mem _ m_fl_X8_295)
  have kf17 := hts _ (List.mem_cons_of_mem _ m_fl_X8_17)
  have kf21 := hts _ (List.mem_cons_of_mem _ m_fl_X8_21)
  have kf211 := hts _ (List.mem_cons_of_mem _ m_fl_X8_211)
  refine (?_ : ∀ (H : Heap) (locs : List Loc), va_P (dC, dI) vwCl (zzM ad cy iM aM) H → va_D A (zzM ad cy iM aM) → va_S A s.heap H locs → W p l e ({ frames := 5, cells := 0, slots := 0, locals := 120 } : Room) s m args below meth c H locs 0 0 QQ (F0 m 0 ls [])) s.heap [] hP hD hS
  clear hP hD hS
  have B69 : ∀ (v1 : Int32) (v2 : Int32) (s1 : Int32) (s2 : Int32) (x_iM : Nat → Int32) (x_aM : Nat → Nat → Int32) (k10 : Int32 → (Nat → Nat → Int32) → Option ((Nat → Int32) × (Nat → Nat → Int32))) (hk10 : ∀ (v1' : Int32) (x_aM' : Nat → Nat → Int32) (H : Heap) (locs : List Loc) (ls : Array Slot), k10 v1' x_aM' = some q → va_P (dC, dI) vwCl (zzM ad cy x_iM x_aM') H → va_D A (zzM ad cy x_iM x_aM') → va_S A s.heap H locs → lv_has ls 3 [(0, .ref (ad 0)), (1, .int v1')] → W p l e ({ frames := 5, cells := 0, slots := 0, locals := 120 } : Room) s m args below meth c H locs 0 0 QQ (F0 m 10 ls [])) (H : Heap) (locs : List Loc) (ls : Array Slot), f_M_become_69 N iM aM k10 v1 v2 s1 s2 x_iM x_aM = some q → va_P (dC, dI) vwCl (zzM ad cy x_iM x_aM) H → va_D A (zzM ad cy x_iM x_aM) → va_S A s.heap H locs → lv_has ls 3 [(0, .ref (ad 0)), (1, .int v1), (2, .int v2)] → W p l e ({ frames := 5, cells := 0, slots := 0, locals := 120 } : Room) s m args below meth c H locs 0 0 QQ (F0 m 69 ls [.int s2, .int s1, .ref (ad 4)]) := by
    intro v1 v2 s1 s2 x_iM x_aM k10 hk10 H locs ls h hP hD hS hl
    unfold f_M_become_69 at h
    obtain ⟨g_115, h⟩ := g_n h
    refine va_iast (f := (x_aM 9)) hx hb hK hP hD hS 4 0 rfl rfl g_115 dX8_become_69 (fun H locs hP hD hS => ?_)
    have hP : va_P (dC, dI) vwCl (zzM ad cy x_iM (us x_aM [(9, (upd ((x_aM 9)) s1.toNatClampNeg s2))])) H := Eq.mp (congrArg (fun w => va_P (dC, dI) vwCl w H) (sfM_aM9 ad cy x_iM x_aM ((upd ((x_aM 9)) s1.toNatClampNeg s2)))) hP
    have hD : va_D A (zzM ad cy x_iM (us x_aM [(9, (upd ((x_aM 9)) s1.toNatClampNeg s2))])) := Eq.mp (congrArg (fun w => va_D A w) (sfM_aM9 ad cy x_iM x_aM ((upd ((x_aM 9)) s1.toNatClampNeg s2)))) hD
    refine lv_aload_n hx hb dX8_become_70 rfl (lv_at hl 0 rfl) ?_
    refine va_get (D := (dC, dI)) (ci := 8) (v := .ref (ad 5)) (C := RX8) (T := TX8) (N := 78) hx hb hts ki8 hown hK hP 0 rfl rfl 10 (by decide) kf24 (fun _ h9 => h9) rfl dX8_become_71 ?_
    refine lv_iload_n hx hb dX8_become_74 rfl (lv_at hl 1 rfl) ?_
    refine lv_aload_n hx hb dX8_become_75 rfl (lv_at hl 0 rfl) ?_
    refine va_get (D := (dC, dI)) (ci := 8) (v := .ref (ad 5)) (C := RX8) (T := TX8) (N := 78) hx hb hts ki8 hown hK hP 0 rfl rfl 10 (by decide) kf24 (fun _ h9 => h9) rfl dX8_become_76 ?_
    refine lv_iload_n hx hb dX8_become_79 rfl (lv_at hl 2 rfl) ?_
    obtain ⟨g_101, h⟩ := g_n h
    refine va_iald (f := (x_aM 10)) hx hb hK hP 5 0 rfl rfl g_101 dX8_become_80 ?_
    obtain ⟨q81, e81, h⟩ := g_b h
    refine callSi (cc := cX8_become) (ws' := zzM ad cy x_iM (us x_aM [(9, (upd ((x_aM 9)) s1.toNatClampNeg s2))])) (As := [.int ((((x_aM 10)) v2.toNatClampNeg))]) (rest := [.int v1, .ref (ad 5)]) ⟨hx, hb, hml, hown, hts⟩ (c_M_moved l dC dI cy ad H.size ((((x_aM 10)) v2.toNatClampNeg)) q81 e81) (va_cwS 1 hts (goodS m_ml_X8_335 m_st_X8_moved m_in_X8 m_cd_X8_moved) rfl rfl rfl (by decide +kernel) ⟨Nat.le_of_ble_eq_true rfl, Nat.le_of_ble_eq_true rfl⟩) hN hK hP hD hS hA [] [none, none, none, none, none, none, none, none, none, none, none, none, none, none, none, none, none, none, none, none, none, none, none, none, none, none, none, none, none, none, none, none, none, none, none, none, none, none, none, none, none, none, none, none] rfl rfl rfl rfl rfl rfl rfl hl.1 rfl (Nat.le_of_ble_eq_true rfl) dX8_become_81 ⟨Nat.zero_le _, Nat.zero_le _⟩ (fun H locs hP hD hS => ?_)
    obtain ⟨g_62, h⟩ := g_n h
    refine va_iast (f := (x_aM 10)) hx hb hK hP hD hS 5 0 rfl rfl g_62 dX8_become_84 (fun H locs hP hD hS => ?_)
    have hP : va_P (dC, dI) vwCl (zzM ad cy x_iM (us x_aM [(9, (upd ((x_aM 9)) s1.toNatClampNeg s2)), (10, (upd ((x_aM 10)) v1.toNatClampNeg q81))])) H := Eq.mp (congrArg (fun w => va_P (dC, dI) vwCl w H) (stM_aM10 ad cy x_iM x_aM [(9, (upd ((x_aM 9)) s1.toNatClampNeg s2))] ((upd ((x_aM 10)) v1.toNatClampNeg q81)))) hP
    have hD : va_D A (zzM ad cy x_iM (us x_aM [(9, (upd ((x_aM 9)) s1.toNatClampNeg s2)), (10, (upd ((x_aM 10)) v1.toNatClampNeg q81))])) := Eq.mp (congrArg (fun w => va_D A w) (stM_aM10 ad cy x_iM x_aM [(9, (upd ((x_aM 9)) s1.toNatClampNeg s2))] ((upd ((x_aM 10)) v1.toNatClampNeg q81)))) hD
    refine lv_aload_n hx hb dX8_become_85 rfl (lv_at hl 0 rfl) ?_
    refine va_get (D := (dC, dI)) (ci := 8) (v := .ref (ad 6)) (C := RX8) (T := TX8) (N := 78) hx hb hts ki8 hown hK hP 0 rfl rfl 11 (by decide) kf27 (fun _ h9 => h9) rfl dX8_become_86 ?_
    refine lv_iload_n hx hb dX8_become_89 rfl (lv_at hl 1 rfl) ?_
    refine lv_aload_n hx hb dX8_become_90 rfl (lv_at hl 0 rfl) ?_
    refine va_get (D := (dC, dI)) (ci := 8) (v := .ref (ad 6)) (C := RX8) (T := TX8) (N := 78) hx hb hts ki8 hown hK hP 0 rfl rfl 11 (by decide) kf27 (fun _ h9 => h9) rfl dX8_become_91 ?_
    refine lv_iload_n hx hb dX8_become_94 rfl (lv_at hl 2 rfl) ?_
    refine va_iald (f := (x_aM 11)) hx hb hK hP 6 0 rfl rfl g_101 dX8_become_95 ?_
    refine va_iast (f := (x_aM 11)) hx hb hK hP hD hS 6 0 rfl rfl g_62 dX8_become_96 (fun H locs hP hD hS => ?_)
    have hP : va_P (dC, dI) vwCl (zzM ad cy x_iM (us x_aM [(9, (upd ((x_aM 9)) s1.toNatClampNeg s2)), (10, (upd ((x_aM 10)) v1.toNatClampNeg q81)), (11, (upd ((x_aM 11)) v1.toNatClampNeg ((((x_aM 11)) v2.toNatClampNeg))))])) H := Eq.mp (congrArg (fun w => va_P (dC, dI) vwCl w H) (stM_aM11 ad cy x_iM x_aM [(9, (upd ((x_aM 9)) s1.toNatClampNeg s2)), (10, (upd ((x_aM 10)) v1.toNatClampNeg q81))] ((upd ((x_aM 11)) v1.toNatClampNeg ((((x_aM 11)) v2.toNatClampNeg)))))) hP
    have hD : va_D A (zzM ad cy x_iM (us x_aM [(9, (upd ((x_aM 9)) s1.toNatClampNeg s2)), (10, (upd ((x_aM 10)) v1.toNatClampNeg q81)), (11, (upd ((x_aM 11)) v1.toNatClampNeg ((((x_aM 11)) v2.toNatClampNeg))))])) := Eq.mp (congrArg (fun w => va_D A w) (stM_aM11 ad cy x_iM x_aM [(9, (upd ((x_aM 9)) s1.toNatClampNeg s2)), (10, (upd ((x_aM 10)) v1.toNatClampNeg q81))] ((upd ((x_aM 11)) v1.toNatClampNeg ((((x_aM 11)) v2.toNatClampNeg)))))) hD
    refine lv_aload_n hx hb dX8_become_97 rfl (lv_at hl 0 rfl) ?_
    refine va_get (D := (dC, dI)) (ci := 8) (v := .ref (ad 8)) (C := RX8) (T := TX8) (N := 78) hx hb hts ki8 hown hK hP 0 rfl rfl 13 (by decide) kf33 (fun _ h9 => h9) rfl dX8_become_98 ?_
    refine lv_iload_n hx hb dX8_become_101 rfl (lv_at hl 1 rfl) ?_
    refine lv_aload_n hx hb dX8_become_102 rfl (lv_at hl 0 rfl) ?_
    refine va_get (D := (dC, dI)) (ci := 8) (v := .ref (ad 8)) (C := RX8) (T := TX8) (N := 78) hx hb hts ki8 hown hK hP 0 rfl rfl 13 (by decide) kf33 (fun _ h9 => h9) rfl dX8_become_103 ?_
    refine lv_iload_n hx hb dX8_become_106 rfl (lv_at hl 2 rfl) ?_
    refine va_iald (f := (x_aM 13)) hx hb hK hP 8 0 rfl rfl g_101 dX8_become_107 ?_
    obtain ⟨q108, e108, h⟩ := g_b h
    refine callSi (cc := cX8_become) (ws' := zzM ad cy x_iM (us x_aM [(9, (upd ((x_aM 9)) s1.toNatClampNeg s2)), (10, (upd ((x_aM 10)) v1.toNatClampNeg q81)), (11, (upd ((x_aM 11)) v1.toNatClampNeg ((((x_aM 11)) v2.toNatClampNeg))))])) (As := [.int ((((x_aM 13)) v2.toNatClampNeg))]) (rest := [.int v1, .ref (ad 8)]) ⟨hx, hb, hml, hown, hts⟩ (c_M_moved l dC dI cy ad H.size ((((x_aM 13)) v2.toNatClampNeg)) q108 e108) (va_cwS 1 hts (goodS m_ml_X8_335 m_st_X8_moved m_in_X8 m_cd_X8_moved) rfl rfl rfl (by decide +kernel) ⟨Nat.le_of_ble_eq_true rfl, Nat.le_of_ble_eq_true rfl⟩) hN hK hP hD hS hA [] [none, none, none, none, none, none, none, none, none, none, none, none, none, none, none, none, none, none, none, none, none, none, none, none, none, none, none, none, none, none, none, none, none, none, none, none, none, none, none, none, none, none, none, none] rfl rfl rfl rfl rfl rfl rfl hl.1 rfl (Nat.le_of_ble_eq_true rfl) dX8_become_108 ⟨Nat.zero_le _, Nat.zero_le _⟩ (fun H locs hP hD hS => ?_)
    refine va_iast (f := (x_aM 13)) hx hb hK hP hD hS 8 0 rfl rfl g_62 dX8_become_111 (fun H locs hP hD hS => ?_)
    have hP : va_P (dC, dI) vwCl (zzM ad cy x_iM (us x_aM [(9, (upd ((x_aM 9)) s1.toNatClampNeg s2)), (10, (upd ((x_aM 10)) v1.toNatClampNeg q81)), (11, (upd ((x_aM 11)) v1.toNatClampNeg ((((x_aM 11)) v2.toNatClampNeg)))), (13, (upd ((x_aM 13)) v1.toNatClampNeg q108))])) H := Eq.mp (congrArg (fun w => va_P (dC, dI) vwCl w H) (stM_aM13 ad cy x_iM x_aM [(9, (upd ((x_aM 9)) s1.toNatClampNeg s2)), (10, (upd ((x_aM 10)) v1.toNatClampNeg q81)), (11, (upd ((x_aM 11)) v1.toNatClampNeg ((((x_aM 11)) v2.toNatClampNeg))))] ((upd ((x_aM 13)) v1.toNatClampNeg q108)))) hP
    have hD : va_D A (zzM ad cy x_iM (us x_aM [(9, (upd ((x_aM 9)) s1.toNatClampNeg s2)), (10, (upd ((x_aM 10)) v1.toNatClampNeg q81)), (11, (upd ((x_aM 11)) v1.toNatClampNeg ((((x_aM 11)) v2.toNatClampNeg)))), (13, (upd ((x_aM 13)) v1.toNatClampNeg q108))])) := Eq.mp (congrArg (fun w => va_D A w) (stM_aM13 ad cy x_iM x_aM [(9, (upd ((x_aM 9)) s1.toNatClampNeg s2)), (10, (upd ((x_aM 10)) v1.toNatClampNeg q81)), (11, (upd ((x_aM 11)) v1.toNatClampNeg ((((x_aM 11)) v2.toNatClampNeg))))] ((upd ((x_aM 13)) v1.toNatClampNeg q108)))) hD
    refine lv_iinc (v := (v1 + (1 : Int32))) (lv' := [(1, .int ((v1 + (1 : Int32)))), (0, .ref (ad 0)), (2, .int v2)]) hx hb dX8_become_112 hl (k := 1) rfl rfl (by decide) rfl (fun ls hl => ?_)
    refine lv_goto (tgt := 10) hx hb dX8_become_115 (by decide) ?_
    exact hk10 ((v1 + (1 : Int32))) ((us x_aM [(9, (upd ((x_aM 9)) s1.toNatClampNeg s2)), (10, (upd ((x_aM 10)) v1.toNatClampNeg q81)), (11, (upd ((x_aM 11)) v1.toNatClampNeg ((((x_aM 11)) v2.toNatClampNeg)))), (13, (upd ((x_aM 13)) v1.toNatClampNeg q108))])) H locs ls h hP hD hS (lv_sub hl [1, 0] rfl)
  have B411 : ∀ (n : Nat) (x_iM : Nat → Int32) (v1 : Int32) (x_aM : Nat → Nat → Int32) (H : Heap) (locs : List Loc) (ls : Array Slot), f_M_become_411 N iM aM x_iM n v1 x_aM = some q → va_P (dC, dI) vwCl (zzM ad cy x_iM x_aM) H → va_D A (zzM ad cy x_iM x_aM) → va_S A s.heap H locs → lv_has ls 3 [(0, .ref (ad 0)), (1, .int v1)] → W p l e ({ frames := 5, cells := 0, slots := 0, locals := 120 } : Room) s m args below meth c H locs 0 0 QQ (F0 m 411 ls []) := by
    intro n
    induction n with
    | zero =>
      intro x_iM v1 x_aM H locs ls h hP hD hS hl
      rw [f_M_become_411] at h
      cases h
    | succ n ih =>
      intro x_iM v1 x_aM H locs ls h hP hD hS hl
      rw [f_M_become_411] at h
      refine lv_iload_n hx hb dX8_become_411 rfl (lv_at hl 1 rfl) ?_
      refine lv_bipush (v := 9) hx hb dX8_become_412 (by decide) ?_
      refine lv_icmp_ge (tgt := 501) hx hb dX8_become_414 (by decide) (fun cz => ?_) (fun cz => ?_)
      · have h := g_t h cz
        refine lv_aload_n hx hb dX8_become_501 rfl (lv_at hl 0 rfl) ?_
        refine lv_iconst (v := 1) hx hb dX8_become_502 (by decide) ?_
        refine va_put (D := (dC, dI)) (ci := 8) (v := .int ((1 : Int32))) (ty := .boolean) (C := RX8) (T := TX8) (N := 78) hx hb hts ki8 tyX8 tyX8_ok nmX8 hown hK hP hD hS 0 rfl rfl 37 (by decide) kf356 (fun _ h9 => h9) rfl (by decide +kernel) rfl rfl (Nat.le_of_ble_eq_true rfl) dX8_become_503 (fun H locs hP hD hS => ?_)
        have hP : va_P (dC, dI) vwCl (zzM ad cy (us x_iM [(37, (1 : Int32))]) x_aM) H := Eq.mp (congrArg (fun w => va_P (dC, dI) vwCl w H) (sfM_iM37 ad cy x_iM x_aM ((1 : Int32)))) hP
        have hD : va_D A (zzM ad cy (us x_iM [(37, (1 : Int32))]) x_aM) := Eq.mp (congrArg (fun w => va_D A w) (sfM_iM37 ad cy x_iM x_aM ((1 : Int32)))) hD
        refine lv_aload_n hx hb dX8_become_506 rfl (lv_at hl 0 rfl) ?_
        refine lv_iconst (v := 0) hx hb dX8_become_507 (by decide) ?_
        refine va_put (D := (dC, dI)) (ci := 8) (v := .int ((0 : Int32))) (ty := .int) (C := RX8) (T := TX8) (N := 78) hx hb hts ki8 tyX8 tyX8_ok nmX8 hown hK hP hD hS 0 rfl rfl 66 (by decide) kf359 (fun _ h9 => h9) rfl (by decide +kernel) rfl rfl (Nat.le_of_ble_eq_true rfl) dX8_become_508 (fun H locs hP hD hS => ?_)
        have hP : va_P (dC, dI) vwCl (zzM ad cy (us x_iM [(37, (1 : Int32)), (66, (0 : Int32))]) x_aM) H := Eq.mp (congrArg (fun w => va_P (dC, dI) vwCl w H) (stM_iM66 ad cy x_iM x_aM [(37, (1 : Int32))] ((0 : Int32)))) hP
        have hD : va_D A (zzM ad cy (us x_iM [(37, (1 : Int32)), (66, (0 : Int32))]) x_aM) := Eq.mp (congrArg (fun w => va_D A w) (stM_iM66 ad cy x_iM x_aM [(37, (1 : Int32))] ((0 : Int32)))) hD
        refine lv_aload_n hx hb dX8_become_511 rfl (lv_at hl 0 rfl) ?_
        refine lv_iconst (v := 0) hx hb dX8_become_512 (by decide) ?_
        refine va_put (D := (dC, dI)) (ci := 8) (v := .int ((0 : Int32))) (ty := .int) (C := RX8) (T := TX8) (N := 78) hx hb hts ki8 tyX8 tyX8_ok nmX8 hown hK hP hD hS 0 rfl rfl 68 (by decide) kf362 (fun _ h9 => h9) rfl (by decide +kernel) rfl rfl (Nat.le_of_ble_eq_true rfl) dX8_become_513 (fun H locs hP hD hS => ?_)
        have hP : va_P (dC, dI) vwCl (zzM ad cy (us x_iM [(37, (1 : Int32)), (66, (0 : Int32)), (68, (0 : Int32))]) x_aM) H := Eq.mp (congrArg (fun w => va_P (dC, dI) vwCl w H) (stM_iM68 ad cy x_iM x_aM [(37, (1 : Int32)), (66, (0 : Int32))] ((0 : Int32)))) hP
        have hD : va_D A (zzM ad cy (us x_iM [(37, (1 : Int32)), (66, (0 : Int32)), (68, (0 : Int32))]) x_aM) := Eq.mp (congrArg (fun w => va_D A w) (stM_iM68 ad cy x_iM x_aM [(37, (1 : Int32)), (66, (0 : Int32))] ((0 : Int32)))) hD
        refine lv_aload_n hx hb dX8_become_516 rfl (lv_at hl 0 rfl) ?_
        obtain ⟨q517, e517, h⟩ := g_b h
        refine callVvs (cc := cX8_become) (w1 := zzM ad cy q517.1 q517.2) (As := []) (rest := []) ⟨hx, hb, hml, hown, hts⟩ (c_M_workOut l dC dI cy ad H.size N ((us x_iM [(37, (1 : Int32)), (66, (0 : Int32)), (68, (0 : Int32))])) x_aM q517 e517) (cwV 0 hts (goodV m_ml_X8_365 m_im_X8_workOut m_se_X8_workOut m_in_X8 m_cd_X8_workOut) rfl rfl rfl (by decide +kernel) ⟨Nat.le_of_ble_eq_true rfl, Nat.le_of_ble_eq_true rfl⟩) hN hK hP hD hS hA rfl 0 rfl rfl rfl hl.1 rfl (Nat.le_of_ble_eq_true rfl) dX8_become_517 ⟨Nat.zero_le _, Nat.zero_le _⟩ (fun H locs hP hD hS => ?_)
        have h' := Option.some.inj h
        rw [← hQQ]
        exact W.vret hx hb hr (fun t ht hW => ⟨⟨(), rfl, trivial, by rw [← hWQ, ← h', ht]; exact hP, va_K.moved hW.alike hK⟩, hS.F ht⟩) hS.2.2 dX8_become_520
      · have h := g_f h cz
        refine lv_aload_n hx hb dX8_become_417 rfl (lv_at hl 0 rfl) ?_
        refine va_get (D := (dC, dI)) (ci := 8) (v := .ref (ad 19)) (C := RX8) (T := TX8) (N := 78) hx hb hts ki8 hown hK hP 0 rfl rfl 30 (by decide) kf67 (fun _ h9 => h9) rfl dX8_become_418 ?_
        refine lv_iload_n hx hb dX8_become_421 rfl (lv_at hl 1 rfl) ?_
        refine lv_aload_n hx hb dX8_become_422 rfl (lv_at hl 0 rfl) ?_
        refine va_get (D := (dC, dI)) (ci := 8) (v := .ref (ad 19)) (C := RX8) (T := TX8) (N := 78) hx hb hts ki8 hown hK hP 0 rfl rfl 30 (by decide) kf67 (fun _ h9 => h9) rfl dX8_become_423 ?_
        refine lv_bipush (v := 9) hx hb dX8_become_426 (by decide) ?_
        refine lv_iload_n hx hb dX8_become_428 rfl (lv_at hl 1 rfl) ?_
        refine lv_iadd hx hb dX8_become_429 ?_
        obtain ⟨g_116, h⟩ := g_n h
        refine va_zald (f := (x_aM 30)) hx hb hK hP 19 4 rfl rfl g_116 dX8_become_430 ?_
        obtain ⟨g_117, h⟩ := g_n h
        refine va_zast (f := (x_aM 30)) hx hb hK hP hD hS 19 4 rfl rfl g_117 dX8_become_431 (fun H locs hP hD hS => ?_)
        have hP : va_P (dC, dI) vwCl (zzM ad cy x_iM (us x_aM [(30, (upd ((x_aM 30)) v1.toNatClampNeg (vp_nar .boolean ((((x_aM 30)) (((9 : Int32) + v1)).toNatClampNeg)))))])) H := Eq.mp (congrArg (fun w => va_P (dC, dI) vwCl w H) (sfM_aM30 ad cy x_iM x_aM ((upd ((x_aM 30)) v1.toNatClampNeg (vp_nar .boolean ((((x_aM 30)) (((9 : Int32) + v1)).toNatClampNeg))))))) hP
        have hD : va_D A (zzM ad cy x_iM (us x_aM [(30, (upd ((x_aM 30)) v1.toNatClampNeg (vp_nar .boolean ((((x_aM 30)) (((9 : Int32) + v1)).toNatClampNeg)))))])) := Eq.mp (congrArg (fun w => va_D A w) (sfM_aM30 ad cy x_iM x_aM ((upd ((x_aM 30)) v1.toNatClampNeg (vp_nar .boolean ((((x_aM 30)) (((9 : Int32) + v1)).toNatClampNeg))))))) hD
        refine lv_aload_n hx hb dX8_become_432 rfl (lv_at hl 0 rfl) ?_
        refine va_get (D := (dC, dI)) (ci := 8) (v := .ref (ad 21)) (C := RX8) (T := TX8) (N := 78) hx hb hts ki8 hown hK hP 0 rfl rfl 32 (by decide) kf73 (fun _ h9 => h9) rfl dX8_become_433 ?_
        refine lv_iload_n hx hb dX8_become_436 rfl (lv_at hl 1 rfl) ?_
        refine lv_aload_n hx hb dX8_become_437 rfl (lv_at hl 0 rfl) ?_
        refine va_get (D := (dC, dI)) (ci := 8) (v := .ref (ad 21)) (C := RX8) (T := TX8) (N := 78) hx hb hts ki8 hown hK hP 0 rfl rfl 32 (by decide) kf73 (fun _ h9 => h9) rfl dX8_become_438 ?_
        refine lv_bipush (v := 9) hx hb dX8_become_441 (by decide) ?_
        refine lv_iload_n hx hb dX8_become_443 rfl (lv_at hl 1 rfl) ?_
        refine lv_iadd hx hb dX8_become_444 ?_
        refine va_iald (f := (x_aM 32)) hx hb hK hP 21 0 rfl rfl g_116 dX8_become_445 ?_
        refine va_iast (f := (x_aM 32)) hx hb hK hP hD hS 21 0 rfl rfl g_117 dX8_become_446 (fun H locs hP hD hS => ?_)
        have hP : va_P (dC, dI) vwCl (zzM ad cy x_iM (us x_aM [(30, (upd ((x_aM 30)) v1.toNatClampNeg (vp_nar .boolean ((((x_aM 30)) (((9 : Int32) + v1)).toNatClampNeg))))), (32, (upd ((x_aM 32)) v1.toNatClampNeg ((((x_aM 32)) (((9 : Int32) + v1)).toNatClampNeg))))])) H := Eq.mp (congrArg (fun w => va_P (dC, dI) vwCl w H) (stM_aM32 ad cy x_iM x_aM [(30, (upd ((x_aM 30)) v1.toNatClampNeg (vp_nar .boolean ((((x_aM 30)) (((9 : Int32) + v1)).toNatClampNeg)))))] ((upd ((x_aM 32)) v1.toNatClampNeg ((((x_aM 32)) (((9 : Int32) + v1)).toNatClampNeg)))))) hP
        have hD : va_D A (zzM ad cy x_iM (us x_aM [(30, (upd ((x_aM 30)) v1.toNatClampNeg (vp_nar .boolean ((((x_aM 30)) (((9 : Int32) + v1)).toNatClampNeg))))), (32, (upd ((x_aM 32)) v1.toNatClampNeg ((((x_aM 32)) (((9 : Int32) + v1)).toNatClampNeg))))])) := Eq.mp (congrArg (fun w => va_D A w) (stM_aM32 ad cy x_iM x_aM [(30, (upd ((x_aM 30)) v1.toNatClampNeg (vp_nar .boolean ((((x_aM 30)) (((9 : Int32) + v1)).toNatClampNeg)))))] ((upd ((x_aM 32)) v1.toNatClampNeg ((((x_aM 32)) (((9 : Int32) + v1)).toNatClampNeg)))))) hD
        refine lv_aload_n hx hb dX8_become_447 rfl (lv_at hl 0 rfl) ?_
        refine va_get (D := (dC, dI)) (ci := 8) (v := .ref (ad 22)) (C := RX8) (T := TX8) (N := 78) hx hb hts ki8 hown hK hP 0 rfl rfl 33 (by decide) kf76 (fun _ h9 => h9) rfl dX8_become_448 ?_
        refine lv_iload_n hx hb dX8_become_451 rfl (lv_at hl 1 rfl) ?_
        refine lv_aload_n hx hb dX8_become_452 rfl (lv_at hl 0 rfl) ?_
        refine va_get (D := (dC, dI)) (ci := 8) (v := .ref (ad 22)) (C := RX8) (T := TX8) (N := 78) hx hb hts ki8 hown hK hP 0 rfl rfl 33 (by decide) kf76 (fun _ h9 => h9) rfl dX8_become_453 ?_
        refine lv_bipush (v := 9) hx hb dX8_become_456 (by decide) ?_
        refine lv_iload_n hx hb dX8_become_458 rfl (lv_at hl 1 rfl) ?_
        refine lv_iadd hx hb dX8_become_459 ?_
        refine va_iald (f := (x_aM 33)) hx hb hK hP 22 0 rfl rfl g_116 dX8_become_460 ?_
        refine va_iast (f := (x_aM 33)) hx hb hK hP hD hS 22 0 rfl rfl g_117 dX8_become_461 (fun H locs hP hD hS => ?_)
        have hP : va_P (dC, dI) vwCl (zzM ad cy x_iM (us x_aM [(30, (upd ((x_aM 30)) v1.toNatClampNeg (vp_nar .boolean ((((x_aM 30)) (((9 : Int32) + v1)).toNatClampNeg))))), (32, (upd ((x_aM 32)) v1.toNatClampNeg ((((x_aM 32)) (((9 : Int32) + v1)).toNatClampNeg)))), (33, (upd ((x_aM 33)) v1.toNatClampNeg ((((x_aM 33)) (((9 : Int32) + v1)).toNatClampNeg))))])) H := Eq.mp (congrArg (fun w => va_P (dC, dI) vwCl w H) (stM_aM33 ad cy x_iM x_aM [(30, (upd ((x_aM 30)) v1.toNatClampNeg (vp_nar .boolean ((((x_aM 30)) (((9 : Int32) + v1)).toNatClampNeg))))), (32, (upd ((x_aM 32)) v1.toNatClampNeg ((((x_aM 32)) (((9 : Int32) + v1)).toNatClampNeg))))] ((upd ((x_aM 33)) v1.toNatClampNeg ((((x_aM 33)) (((9 : Int32) + v1)).toNatClampNeg)))))) hP
        have hD : va_D A (zzM ad cy x_iM (us x_aM [(30, (upd ((x_aM 30)) v1.toNatClampNeg (vp_nar .boolean ((((x_aM 30)) (((9 : Int32) + v1)).toNatClampNeg))))), (32, (upd ((x_aM 32)) v1.toNatClampNeg ((((x_aM 32)) (((9 : Int32) + v1)).toNatClampNeg)))), (33, (upd ((x_aM 33)) v1.toNatClampNeg ((((x_aM 33)) (((9 : Int32) + v1)).toNatClampNeg))))])) := Eq.mp (congrArg (fun w => va_D A w) (stM_aM33 ad cy x_iM x_aM [(30, (upd ((x_aM 30)) v1.toNatClampNeg (vp_nar .boolean ((((x_aM 30)) (((9 : Int32) + v1)).toNatClampNeg))))), (32, (upd ((x_aM 32)) v1.toNatClampNeg ((((x_aM 32)) (((9 : Int32) + v1)).toNatClampNeg))))] ((upd ((x_aM 33)) v1.toNatClampNeg ((((x_aM 33)) (((9 : Int32) + v1)).toNatClampNeg)))))) hD
        refine lv_aload_n hx hb dX8_become_462 rfl (lv_at hl 0 rfl) ?_
        refine va_get (D := (dC, dI)) (ci := 8) (v := .ref (ad 23)) (C := RX8) (T := TX8) (N := 78) hx hb hts ki8 hown hK hP 0 rfl rfl 34 (by decide) kf79 (fun _ h9 => h9) rfl dX8_become_463 ?_
        refine lv_iload_n hx hb dX8_become_466 rfl (lv_at hl 1 rfl) ?_
        refine lv_aload_n hx hb dX8_become_467 rfl (lv_at hl 0 rfl) ?_
        refine va_get (D := (dC, dI)) (ci := 8) (v := .ref (ad 23)) (C := RX8) (T := TX8) (N := 78) hx hb hts ki8 hown hK hP 0 rfl rfl 34 (by decide) kf79 (fun _ h9 => h9) rfl dX8_become_468 ?_
        refine lv_bipush (v := 9) hx hb dX8_become_471 (by decide) ?_
        refine lv_iload_n hx hb dX8_become_473 rfl (lv_at hl 1 rfl) ?_
        refine lv_iadd hx hb dX8_become_474 ?_
        refine va_iald (f := (x_aM 34)) hx hb hK hP 23 0 rfl rfl g_116 dX8_become_475 ?_
        obtain ⟨q476, e476, h⟩ := g_b h
        refine callSi (cc := cX8_become) (ws' := zzM ad cy x_iM (us x_aM [(30, (upd ((x_aM 30)) v1.toNatClampNeg (vp_nar .boolean ((((x_aM 30)) (((9 : Int32) + v1)).toNatClampNeg))))), (32, (upd ((x_aM 32)) v1.toNatClampNeg ((((x_aM 32)) (((9 : Int32) + v1)).toNatClampNeg)))), (33, (upd ((x_aM 33)) v1.toNatClampNeg ((((x_aM 33)) (((9 : Int32) + v1)).toNatClampNeg))))])) (As := [.int ((((x_aM 34)) (((9 : Int32) + v1)).toNatClampNeg))]) (rest := [.int v1, .ref (ad 23)]) ⟨hx, hb, hml, hown, hts⟩ (c_M_moved l dC dI cy ad H.size ((((x_aM 34)) (((9 : Int32) + v1)).toNatClampNeg)) q476 e476) (va_cwS 1 hts (goodS m_ml_X8_335 m_st_X8_moved m_in_X8 m_cd_X8_moved) rfl rfl rfl (by decide +kernel) ⟨Nat.le_of_ble_eq_true rfl, Nat.le_of_ble_eq_true rfl⟩) hN hK hP hD hS hA [] [none, none, none, none, none, none, none, none, none, none, none, none, none, none, none, none, none, none, none, none, none, none, none, none, none, none, none, none, none, none, none, none, none, none, none, none, none, none, none, none, none, none, none, none] rfl rfl rfl rfl rfl rfl rfl hl.1 rfl (Nat.le_of_ble_eq_true rfl) dX8_become_476 ⟨Nat.zero_le _, Nat.zero_le _⟩ (fun H locs hP hD hS => ?_)
        refine va_iast (f := (x_aM 34)) hx hb hK hP hD hS 23 0 rfl rfl g_117 dX8_become_479 (fun H locs hP hD hS => ?_)
        have hP : va_P (dC, dI) vwCl (zzM ad cy x_iM (us x_aM [(30, (upd ((x_aM 30)) v1.toNatClampNeg (vp_nar .boolean ((((x_aM 30)) (((9 : Int32) + v1)).toNatClampNeg))))), (32, (upd ((x_aM 32)) v1.toNatClampNeg ((((x_aM 32)) (((9 : Int32) + v1)).toNatClampNeg)))), (33, (upd ((x_aM 33)) v1.toNatClampNeg ((((x_aM 33)) (((9 : Int32) + v1)).toNatClampNeg)))), (34, (upd ((x_aM 34)) v1.toNatClampNeg q476))])) H := Eq.mp (congrArg (fun w => va_P (dC, dI) vwCl w H) (stM_aM34 ad cy x_iM x_aM [(30, (upd ((x_aM 30)) v1.toNatClampNeg (vp_nar .boolean ((((x_aM 30)) (((9 : Int32) + v1)).toNatClampNeg))))), (32, (upd ((x_aM 32)) v1.toNatClampNeg ((((x_aM 32)) (((9 : Int32) + v1)).toNatClampNeg)))), (33, (upd ((x_aM 33)) v1.toNatClampNeg ((((x_aM 33)) (((9 : Int32) + v1)).toNatClampNeg))))] ((upd ((x_aM 34)) v1.toNatClampNeg q476)))) hP
        have hD : va_D A (zzM ad cy x_iM (us x_aM [(30, (upd ((x_aM 30)) v1.toNatClampNeg (vp_nar .boolean ((((x_aM 30)) (((9 : Int32) + v1)).toNatClampNeg))))), (32, (upd ((x_aM 32)) v1.toNatClampNeg ((((x_aM 32)) (((9 : Int32) + v1)).toNatClampNeg)))), (33, (upd ((x_aM 33)) v1.toNatClampNeg ((((x_aM 33)) (((9 : Int32) + v1)).toNatClampNeg)))), (34, (upd ((x_aM 34)) v1.toNatClampNeg q476))])) := Eq.mp (congrArg (fun w => va_D A w) (stM_aM34 ad cy x_iM x_aM [(30, (upd ((x_aM 30)) v1.toNatClampNeg (vp_nar .boolean ((((x_aM 30)) (((9 : Int32) + v1)).toNatClampNeg))))), (32, (upd ((x_aM 32)) v1.toNatClampNeg ((((x_aM 32)) (((9 : Int32) + v1)).toNatClampNeg)))), (33, (upd ((x_aM 33)) v1.toNatClampNeg ((((x_aM 33)) (((9 : Int32) + v1)).toNatClampNeg))))] ((upd ((x_aM 34)) v1.toNatClampNeg q476)))) hD
        refine lv_aload_n hx hb dX8_become_480 rfl (lv_at hl 0 rfl) ?_
        refine va_get (D := (dC, dI)) (ci := 8) (v := .ref (ad 24)) (C := RX8) (T := TX8) (N := 78) hx hb hts ki8 hown hK hP 0 rfl rfl 35 (by decide) kf82 (fun _ h9 => h9) rfl dX8_become_481 ?_
        refine lv_iload_n hx hb dX8_become_484 rfl (lv_at hl 1 rfl) ?_
        refine lv_aload_n hx hb dX8_become_485 rfl (lv_at hl 0 rfl) ?_
        refine va_get (D := (dC, dI)) (ci := 8) (v := .ref (ad 24)) (C := RX8) (T := TX8) (N := 78) hx hb hts ki8 hown hK hP 0 rfl rfl 35 (by decide) kf82 (fun _ h9 => h9) rfl dX8_become_486 ?_
        refine lv_bipush (v := 9) hx hb dX8_become_489 (by decide) ?_
        refine lv_iload_n hx hb dX8_become_491 rfl (lv_at hl 1 rfl) ?_
        refine lv_iadd hx hb dX8_become_492 ?_
        refine va_zald (f := (x_aM 35)) hx hb hK hP 24 4 rfl rfl g_116 dX8_become_493 ?_
        refine va_zast (f := (x_aM 35)) hx hb hK hP hD hS 24 4 rfl rfl g_117 dX8_become_494 (fun H locs hP hD hS => ?_)
        have hP : va_P (dC, dI) vwCl (zzM ad cy x_iM (us x_aM [(30, (upd ((x_aM 30)) v1.toNatClampNeg (vp_nar .boolean ((((x_aM 30)) (((9 : Int32) + v1)).toNatClampNeg))))), (32, (upd ((x_aM 32)) v1.toNatClampNeg ((((x_aM 32)) (((9 : Int32) + v1)).toNatClampNeg)))), (33, (upd ((x_aM 33)) v1.toNatClampNeg ((((x_aM 33)) (((9 : Int32) + v1)).toNatClampNeg)))), (34, (upd ((x_aM 34)) v1.toNatClampNeg q476)), (35, (upd ((x_aM 35)) v1.toNatClampNeg (vp_nar .boolean ((((x_aM 35)) (((9 : Int32) + v1)).toNatClampNeg)))))])) H := Eq.mp (congrArg (fun w => va_P (dC, dI) vwCl w H) (stM_aM35 ad cy x_iM x_aM [(30, (upd ((x_aM 30)) v1.toNatClampNeg (vp_nar .boolean ((((x_aM 30)) (((9 : Int32) + v1)).toNatClampNeg))))), (32, (upd ((x_aM 32)) v1.toNatClampNeg ((((x_aM 32)) (((9 : Int32) + v1)).toNatClampNeg)))), (33, (upd ((x_aM 33)) v1.toNatClampNeg ((((x_aM 33)) (((9 : Int32) + v1)).toNatClampNeg)))), (34, (upd ((x_aM 34)) v1.toNatClampNeg q476))] ((upd ((x_aM 35)) v1.toNatClampNeg (vp_nar .boolean ((((x_aM 35)) (((9 : Int32) + v1)).toNatClampNeg))))))) hP
        have hD : va_D A (zzM ad cy x_iM (us x_aM [(30, (upd ((x_aM 30)) v1.toNatClampNeg (vp_nar .boolean ((((x_aM 30)) (((9 : Int32) + v1)).toNatClampNeg))))), (32, (upd ((x_aM 32)) v1.toNatClampNeg ((((x_aM 32)) (((9 : Int32) + v1)).toNatClampNeg)))), (33, (upd ((x_aM 33)) v1.toNatClampNeg ((((x_aM 33)) (((9 : Int32) + v1)).toNatClampNeg)))), (34, (upd ((x_aM 34)) v1.toNatClampNeg q476)), (35, (upd ((x_aM 35)) v1.toNatClampNeg (vp_nar .boolean ((((x_aM 35)) (((9 : Int32) + v1)).toNatClampNeg)))))])) := Eq.mp (congrArg (fun w => va_D A w) (stM_aM35 ad cy x_iM x_aM [(30, (upd ((x_aM 30)) v1.toNatClampNeg (vp_nar .boolean ((((x_aM 30)) (((9 : Int32) + v1)).toNatClampNeg))))), (32, (upd ((x_aM 32)) v1.toNatClampNeg ((((x_aM 32)) (((9 : Int32) + v1)).toNatClampNeg)))), (33, (upd ((x_aM 33)) v1.toNatClampNeg ((((x_aM 33)) (((9 : Int32) + v1)).toNatClampNeg)))), (34, (upd ((x_aM 34)) v1.toNatClampNeg q476))] ((upd ((x_aM 35)) v1.toNatClampNeg (vp_nar .boolean ((((x_aM 35)) (((9 : Int32) + v1)).toNatClampNeg))))))) hD
        refine lv_iinc (v := (v1 + (1 : Int32))) (lv' := [(1, .int ((v1 + (1 : Int32)))), (0, .ref (ad 0))]) hx hb dX8_become_495 hl (k := 1) rfl rfl (by decide) rfl (fun ls hl => ?_)
        refine lv_goto (tgt := 411) hx hb dX8_become_498 (by decide) ?_
        exact ih x_iM ((v1 + (1 : Int32))) ((us x_aM [(30, (upd ((x_aM 30)) v1.toNatClampNeg (vp_nar .boolean ((((x_aM 30)) (((9 : Int32) + v1)).toNatClampNeg))))), (32, (upd ((x_aM 32)) v1.toNatClampNeg ((((x_aM 32)) (((9 : Int32) + v1)).toNatClampNeg)))), (33, (upd ((x_aM 33)) v1.toNatClampNeg ((((x_aM 33)) (((9 : Int32) + v1)).toNatClampNeg)))), (34, (upd ((x_aM 34)) v1.toNatClampNeg q476)), (35, (upd ((x_aM 35)) v1.toNatClampNeg (vp_nar .boolean ((((x_aM 35)) (((9 : Int32) + v1)).toNatClampNeg)))))])) H locs ls h hP hD hS (lv_sub hl [1, 0] rfl)
  have B370 : ∀ (n : Nat) (x_iM : Nat → Int32) (v1 : Int32) (x_aM : Nat → Nat → Int32) (H : Heap) (locs : List Loc) (ls : Array Slot), f_M_become_370 N iM aM x_iM n v1 x_aM = some q → va_P (dC, dI) vwCl (zzM ad cy x_iM x_aM) H → va_D A (zzM ad cy x_iM x_aM) → va_S A s.heap H locs → lv_has ls 3 [(0, .ref (ad 0)), (1, .int v1)] → W p l e ({ frames := 5, cells := 0, slots := 0, locals := 120 } : Room) s m args below meth c H locs 0 0 QQ (F0 m 370 ls []) := by
    intro n
    induction n with
    | zero =>
      intro x_iM v1 x_aM H locs ls h hP hD hS hl
      rw [f_M_become_370] at h
      cases h
    | succ n ih =>
      intro x_iM v1 x_aM H locs ls h hP hD hS hl
      rw [f_M_become_370] at h
      refine lv_iload_n hx hb dX8_become_370 rfl (lv_at hl 1 rfl) ?_
      refine lv_iconst (v := 3) hx hb dX8_become_371 (by decide) ?_
      refine lv_icmp_ge (tgt := 409) hx hb dX8_become_372 (by decide) (fun cz => ?_) (fun cz => ?_)
      · have h := g_t h cz
        refine lv_iconst (v := 0) hx hb dX8_become_409 (by decide) ?_
        refine lv_istore_n (lv' := [(1, .int ((0 : Int32))), (0, .ref (ad 0))]) hx hb dX8_become_410 rfl hl (by decide) rfl (fun ls hl => ?_)
        exact B411 N x_iM ((0 : Int32)) x_aM H locs ls h hP hD hS (lv_sub hl [1, 0] rfl)
      · have h := g_f h cz
        refine lv_aload_n hx hb dX8_become_375 rfl (lv_at hl 0 rfl) ?_
        refine va_get (D := (dC, dI)) (ci := 8) (v := .ref (ad 17)) (C := RX8) (T := TX8) (N := 78) hx hb hts ki8 hown hK hP 0 rfl rfl 27 (by decide) kf60 (fun _ h9 => h9) rfl dX8_become_376 ?_
        refine lv_iload_n hx hb dX8_become_379 rfl (lv_at hl 1 rfl) ?_
        refine lv_aload_n hx hb dX8_become_380 rfl (lv_at hl 0 rfl) ?_
        refine va_get (D := (dC, dI)) (ci := 8) (v := .ref (ad 17)) (C := RX8) (T := TX8) (N := 78) hx hb hts ki8 hown hK hP 0 rfl rfl 27 (by decide) kf60 (fun _ h9 => h9) rfl dX8_become_381 ?_
        refine lv_iconst (v := 3) hx hb dX8_become_384 (by decide) ?_
        refine lv_iload_n hx hb dX8_become_385 rfl (lv_at hl 1 rfl) ?_
        refine lv_iadd hx hb dX8_become_386 ?_
        obtain ⟨g_57, h⟩ := g_n h
        refine va_iald (f := (x_aM 27)) hx hb hK hP 17 0 rfl rfl g_57 dX8_become_387 ?_
        obtain ⟨g_118, h⟩ := g_n h
        refine va_iast (f := (x_aM 27)) hx hb hK hP hD hS 17 0 rfl rfl g_118 dX8_become_388 (fun H locs hP hD hS => ?_)
        have hP : va_P (dC, dI) vwCl (zzM ad cy x_iM (us x_aM [(27, (upd ((x_aM 27)) v1.toNatClampNeg ((((x_aM 27)) (((3 : Int32) + v1)).toNatClampNeg))))])) H := Eq.mp (congrArg (fun w => va_P (dC, dI) vwCl w H) (sfM_aM27 ad cy x_iM x_aM ((upd ((x_aM 27)) v1.toNatClampNeg ((((x_aM 27)) (((3 : Int32) + v1)).toNatClampNeg)))))) hP
        have hD : va_D A (zzM ad cy x_iM (us x_aM [(27, (upd ((x_aM 27)) v1.toNatClampNeg ((((x_aM 27)) (((3 : Int32) + v1)).toNatClampNeg))))])) := Eq.mp (congrArg (fun w => va_D A w) (sfM_aM27 ad cy x_iM x_aM ((upd ((x_aM 27)) v1.toNatClampNeg ((((x_aM 27)) (((3 : Int32) + v1)).toNatClampNeg)))))) hD
        refine lv_aload_n hx hb dX8_become_389 rfl (lv_at hl 0 rfl) ?_
        refine va_get (D := (dC, dI)) (ci := 8) (v := .ref (ad 18)) (C := RX8) (T := TX8) (N := 78) hx hb hts ki8 hown hK hP 0 rfl rfl 29 (by decide) kf63 (fun _ h9 => h9) rfl dX8_become_390 ?_
        refine lv_iload_n hx hb dX8_become_393 rfl (lv_at hl 1 rfl) ?_
        refine lv_aload_n hx hb dX8_become_394 rfl (lv_at hl 0 rfl) ?_
        refine va_get (D := (dC, dI)) (ci := 8) (v := .ref (ad 18)) (C := RX8) (T := TX8) (N := 78) hx hb hts ki8 hown hK hP 0 rfl rfl 29 (by decide) kf63 (fun _ h9 => h9) rfl dX8_become_395 ?_
        refine lv_iconst (v := 3) hx hb dX8_become_398 (by decide) ?_
        refine lv_iload_n hx hb dX8_become_399 rfl (lv_at hl 1 rfl) ?_
        refine lv_iadd hx hb dX8_become_400 ?_
        refine va_zald (f := (x_aM 29)) hx hb hK hP 18 4 rfl rfl g_57 dX8_become_401 ?_
        refine va_zast (f := (x_aM 29)) hx hb hK hP hD hS 18 4 rfl rfl g_118 dX8_become_402 (fun H locs hP hD hS => ?_)
        have hP : va_P (dC, dI) vwCl (zzM ad cy x_iM (us x_aM [(27, (upd ((x_aM 27)) v1.toNatClampNeg ((((x_aM 27)) (((3 : Int32) + v1)).toNatClampNeg)))), (29, (upd ((x_aM 29)) v1.toNatClampNeg (vp_nar .boolean ((((x_aM 29)) (((3 : Int32) + v1)).toNatClampNeg)))))])) H := Eq.mp (congrArg (fun w => va_P (dC, dI) vwCl w H) (stM_aM29 ad cy x_iM x_aM [(27, (upd ((x_aM 27)) v1.toNatClampNeg ((((x_aM 27)) (((3 : Int32) + v1)).toNatClampNeg))))] ((upd ((x_aM 29)) v1.toNatClampNeg (vp_nar .boolean ((((x_aM 29)) (((3 : Int32) + v1)).toNatClampNeg))))))) hP
        have hD : va_D A (zzM ad cy x_iM (us x_aM [(27, (upd ((x_aM 27)) v1.toNatClampNeg ((((x_aM 27)) (((3 : Int32) + v1)).toNatClampNeg)))), (29, (upd ((x_aM 29)) v1.toNatClampNeg (vp_nar .boolean ((((x_aM 29)) (((3 : Int32) + v1)).toNatClampNeg)))))])) := Eq.mp (congrArg (fun w => va_D A w) (stM_aM29 ad cy x_iM x_aM [(27, (upd ((x_aM 27)) v1.toNatClampNeg ((((x_aM 27)) (((3 : Int32) + v1)).toNatClampNeg))))] ((upd ((x_aM 29)) v1.toNatClampNeg (vp_nar .boolean ((((x_aM 29)) (((3 : Int32) + v1)).toNatClampNeg))))))) hD
        refine lv_iinc (v := (v1 + (1 : Int32))) (lv' := [(1, .int ((v1 + (1 : Int32)))), (0, .ref (ad 0))]) hx hb dX8_become_403 hl (k := 1) rfl rfl (by decide) rfl (fun ls hl => ?_)
        refine lv_goto (tgt := 370) hx hb dX8_become_406 (by decide) ?_
        exact ih x_iM ((v1 + (1 : Int32))) ((us x_aM [(27, (upd ((x_aM 27)) v1.toNatClampNeg ((((x_aM 27)) (((3 : Int32) + v1)).toNatClampNeg)))), (29, (upd ((x_aM 29)) v1.toNatClampNeg (vp_nar .boolean ((((x_aM 29)) (((3 : Int32) + v1)).toNatClampNeg)))))])) H locs ls h hP hD hS (lv_sub hl [1, 0] rfl)
  have B343 : ∀ (n : Nat) (x_iM : Nat → Int32) (v1 : Int32) (x_aM : Nat → Nat → Int32) (H : Heap) (locs : List Loc) (ls : Array Slot), f_M_become_343 N iM aM x_iM n v1 x_aM = some q → va_P (dC, dI) vwCl (zzM ad cy x_iM x_aM) H → va_D A (zzM ad cy x_iM x_aM) → va_S A s.heap H locs → lv_has ls 3 [(0, .ref (ad 0)), (1, .int v1)] → W p l e ({ frames := 5, cells := 0, slots := 0, locals := 120 } : Room) s m args below meth c H locs 0 0 QQ (F0 m 343 ls []) := by
    intro n
    induction n with
    | zero =>
      intro x_iM v1 x_aM H locs ls h hP hD hS hl
      rw [f_M_become_343] at h
      cases h
    | succ n ih =>
      intro x_iM v1 x_aM H locs ls h hP hD hS hl
      rw [f_M_become_343] at h
      refine lv_iload_n hx hb dX8_become_343 rfl (lv_at hl 1 rfl) ?_
      refine lv_iconst (v := 5) hx hb dX8_become_344 (by decide) ?_
      refine lv_icmp_ge (tgt := 368) hx hb dX8_become_345 (by decide) (fun cz => ?_) (fun cz => ?_)
      · have h := g_t h cz
        refine lv_iconst (v := 0) hx hb dX8_become_368 (by decide) ?_
        refine lv_istore_n (lv' := [(1, .int ((0 : Int32))), (0, .ref (ad 0))]) hx hb dX8_become_369 rfl hl (by decide) rfl (fun ls hl => ?_)
        exact B370 N x_iM ((0 : Int32)) x_aM H locs ls h hP hD hS (lv_sub hl [1, 0] rfl)
      · have h := g_f h cz
        refine lv_aload_n hx hb dX8_become_348 rfl (lv_at hl 0 rfl) ?_
        refine va_get (D := (dC, dI)) (ci := 8) (v := .ref (ad 15)) (C := RX8) (T := TX8) (N := 78) hx hb hts ki8 hown hK hP 0 rfl rfl 24 (by decide) kf54 (fun _ h9 => h9) rfl dX8_become_349 ?_
        refine lv_iload_n hx hb dX8_become_352 rfl (lv_at hl 1 rfl) ?_
        refine lv_aload_n hx hb dX8_become_353 rfl (lv_at hl 0 rfl) ?_
        refine va_get (D := (dC, dI)) (ci := 8) (v := .ref (ad 15)) (C := RX8) (T := TX8) (N := 78) hx hb hts ki8 hown hK hP 0 rfl rfl 24 (by decide) kf54 (fun _ h9 => h9) rfl dX8_become_354 ?_
        refine lv_iconst (v := 5) hx hb dX8_become_357 (by decide) ?_
        refine lv_iload_n hx hb dX8_become_358 rfl (lv_at hl 1 rfl) ?_
        refine lv_iadd hx hb dX8_become_359 ?_
        obtain ⟨g_55, h⟩ := g_n h
        refine va_iald (f := (x_aM 24)) hx hb hK hP 15 0 rfl rfl g_55 dX8_become_360 ?_
        obtain ⟨g_119, h⟩ := g_n h
        refine va_iast (f := (x_aM 24)) hx hb hK hP hD hS 15 0 rfl rfl g_119 dX8_become_361 (fun H locs hP hD hS => ?_)
        have hP : va_P (dC, dI) vwCl (zzM ad cy x_iM (us x_aM [(24, (upd ((x_aM 24)) v1.toNatClampNeg ((((x_aM 24)) (((5 : Int32) + v1)).toNatClampNeg))))])) H := Eq.mp (congrArg (fun w => va_P (dC, dI) vwCl w H) (sfM_aM24 ad cy x_iM x_aM ((upd ((x_aM 24)) v1.toNatClampNeg ((((x_aM 24)) (((5 : Int32) + v1)).toNatClampNeg)))))) hP
        have hD : va_D A (zzM ad cy x_iM (us x_aM [(24, (upd ((x_aM 24)) v1.toNatClampNeg ((((x_aM 24)) (((5 : Int32) + v1)).toNatClampNeg))))])) := Eq.mp (congrArg (fun w => va_D A w) (sfM_aM24 ad cy x_iM x_aM ((upd ((x_aM 24)) v1.toNatClampNeg ((((x_aM 24)) (((5 : Int32) + v1)).toNatClampNeg)))))) hD
        refine lv_iinc (v := (v1 + (1 : Int32))) (lv' := [(1, .int ((v1 + (1 : Int32)))), (0, .ref (ad 0))]) hx hb dX8_become_362 hl (k := 1) rfl rfl (by decide) rfl (fun ls hl => ?_)
        refine lv_goto (tgt := 343) hx hb dX8_become_365 (by decide) ?_
        exact ih x_iM ((v1 + (1 : Int32))) ((us x_aM [(24, (upd ((x_aM 24)) v1.toNatClampNeg ((((x_aM 24)) (((5 : Int32) + v1)).toNatClampNeg))))])) H locs ls h hP hD hS (lv_sub hl [1, 0] rfl)
  have B314 : ∀ (n : Nat) (x_iM : Nat → Int32) (v1 : Int32) (x_aM : Nat → Nat → Int32) (H : Heap) (locs : List Loc) (ls : Array Slot), f_M_become_314 N iM aM x_iM n v1 x_aM = some q → va_P (dC, dI) vwCl (zzM ad cy x_iM x_aM) H → va_D A (zzM ad cy x_iM x_aM) → va_S A s.heap H locs → lv_has ls 3 [(0, .ref (ad 0)), (1, .int v1)] → W p l e ({ frames := 5, cells := 0, slots := 0, locals := 120 } : Room) s m args below meth c H locs 0 0 QQ (F0 m 314 ls []) := by
    intro n
    induction n with
    | zero =>
      intro x_iM v1 x_aM H locs ls h hP hD hS hl
      rw [f_M_become_314] at h
      cases h
    | succ n ih =>
      intro x_iM v1 x_aM H locs ls h hP hD hS hl
      rw [f_M_become_314] at h
      refine lv_iload_n hx hb dX8_become_314 rfl (lv_at hl 1 rfl) ?_
      refine lv_bipush (v := 24) hx hb dX8_become_315 (by decide) ?_
      refine lv_icmp_ge (tgt := 341) hx hb dX8_become_317 (by decide) (fun cz => ?_) (fun cz => ?_)
      · have h := g_t h cz
        refine lv_iconst (v := 0) hx hb dX8_become_341 (by decide) ?_
        refine lv_istore_n (lv' := [(1, .int ((0 : Int32))), (0, .ref (ad 0))]) hx hb dX8_become_342 rfl hl (by decide) rfl (fun ls hl => ?_)
        exact B343 N x_iM ((0 : Int32)) x_aM H locs ls h hP hD hS (lv_sub hl [1, 0] rfl)
      · have h := g_f h cz
        refine lv_aload_n hx hb dX8_become_320 rfl (lv_at hl 0 rfl) ?_
        refine va_get (D := (dC, dI)) (ci := 8) (v := .ref (ad 16)) (C := RX8) (T := TX8) (N := 78) hx hb hts ki8 hown hK hP 0 rfl rfl 26 (by decide) kf57 (fun _ h9 => h9) rfl dX8_become_321 ?_
        refine lv_iload_n hx hb dX8_become_324 rfl (lv_at hl 1 rfl) ?_
        refine lv_aload_n hx hb dX8_become_325 rfl (lv_at hl 0 rfl) ?_
        refine va_get (D := (dC, dI)) (ci := 8) (v := .ref (ad 16)) (C := RX8) (T := TX8) (N := 78) hx hb hts ki8 hown hK hP 0 rfl rfl 26 (by decide) kf57 (fun _ h9 => h9) rfl dX8_become_326 ?_
        refine lv_bipush (v := 24) hx hb dX8_become_329 (by decide) ?_
        refine lv_iload_n hx hb dX8_become_331 rfl (lv_at hl 1 rfl) ?_
        refine lv_iadd hx hb dX8_become_332 ?_
        obtain ⟨g_120, h⟩ := g_n h
        refine va_bald (f := (x_aM 26)) hx hb hK hP 16 1 rfl rfl g_120 dX8_become_333 ?_
        obtain ⟨g_121, h⟩ := g_n h
        refine va_bast (f := (x_aM 26)) hx hb hK hP hD hS 16 1 rfl rfl g_121 dX8_become_334 (fun H locs hP hD hS => ?_)
        have hP : va_P (dC, dI) vwCl (zzM ad cy x_iM (us x_aM [(26, (upd ((x_aM 26)) v1.toNatClampNeg (vp_nar .byte ((((x_aM 26)) (((24 : Int32) + v1)).toNatClampNeg)))))])) H := Eq.mp (congrArg (fun w => va_P (dC, dI) vwCl w H) (sfM_aM26 ad cy x_iM x_aM ((upd ((x_aM 26)) v1.toNatClampNeg (vp_nar .byte ((((x_aM 26)) (((24 : Int32) + v1)).toNatClampNeg))))))) hP
        have hD : va_D A (zzM ad cy x_iM (us x_aM [(26, (upd ((x_aM 26)) v1.toNatClampNeg (vp_nar .byte ((((x_aM 26)) (((24 : Int32) + v1)).toNatClampNeg)))))])) := Eq.mp (congrArg (fun w => va_D A w) (sfM_aM26 ad cy x_iM x_aM ((upd ((x_aM 26)) v1.toNatClampNeg (vp_nar .byte ((((x_aM 26)) (((24 : Int32) + v1)).toNatClampNeg))))))) hD
        refine lv_iinc (v := (v1 + (1 : Int32))) (lv' := [(1, .int ((v1 + (1 : Int32)))), (0, .ref (ad 0))]) hx hb dX8_become_335 hl (k := 1) rfl rfl (by decide) rfl (fun ls hl => ?_)
        refine lv_goto (tgt := 314) hx hb dX8_become_338 (by decide) ?_
        exact ih x_iM ((v1 + (1 : Int32))) ((us x_aM [(26, (upd ((x_aM 26)) v1.toNatClampNeg (vp_nar .byte ((((x_aM 26)) (((24 : Int32) + v1)).toNatClampNeg)))))])) H locs ls h hP hD hS (lv_sub hl [1, 0] rfl)
  have B285 : ∀ (n : Nat) (x_iM : Nat → Int32) (v1 : Int32) (x_aM : Nat → Nat → Int32) (H : Heap) (locs : List Loc) (ls : Array Slot), f_M_become_285 N iM aM x_iM n v1 x_aM = some q → va_P (dC, dI) vwCl (zzM ad cy x_iM x_aM) H → va_D A (zzM ad cy x_iM x_aM) → va_S A s.heap H locs → lv_has ls 3 [(0, .ref (ad 0)), (1, .int v1)] → W p l e ({ frames := 5, cells := 0, slots := 0, locals := 120 } : Room) s m args below meth c H locs 0 0 QQ (F0 m 285 ls []) := by
    intro n
    induction n with
    | zero =>
      intro x_iM v1 x_aM H locs ls h hP hD hS hl
      rw [f_M_become_285] at h
      cases h
    | succ n ih =>
      intro x_iM v1 x_aM H locs ls h hP hD hS hl
      rw [f_M_become_285] at h
      refine lv_iload_n hx hb dX8_become_285 rfl (lv_at hl 1 rfl) ?_
      refine lv_bipush (v := 40) hx hb dX8_become_286 (by decide) ?_
      refine lv_icmp_ge (tgt := 312) hx hb dX8_become_288 (by decide) (fun cz => ?_) (fun cz => ?_)
      · have h := g_t h cz
        refine lv_iconst (v := 0) hx hb dX8_become_312 (by decide) ?_
        refine lv_istore_n (lv' := [(1, .int ((0 : Int32))), (0, .ref (ad 0))]) hx hb dX8_become_313 rfl hl (by decide) rfl (fun ls hl => ?_)
        exact B314 N x_iM ((0 : Int32)) x_aM H locs ls h hP hD hS (lv_sub hl [1, 0] rfl)
      · have h := g_f h cz
        refine lv_aload_n hx hb dX8_become_291 rfl (lv_at hl 0 rfl) ?_
        refine va_get (D := (dC, dI)) (ci := 8) (v := .ref (ad 14)) (C := RX8) (T := TX8) (N := 78) hx hb hts ki8 hown hK hP 0 rfl rfl 23 (by decide) kf51 (fun _ h9 => h9) rfl dX8_become_292 ?_
        refine lv_iload_n hx hb dX8_become_295 rfl (lv_at hl 1 rfl) ?_
        refine lv_aload_n hx hb dX8_become_296 rfl (lv_at hl 0 rfl) ?_
        refine va_get (D := (dC, dI)) (ci := 8) (v := .ref (ad 14)) (C := RX8) (T := TX8) (N := 78) hx hb hts ki8 hown hK hP 0 rfl rfl 23 (by decide) kf51 (fun _ h9 => h9) rfl dX8_become_297 ?_
        refine lv_bipush (v := 40) hx hb dX8_become_300 (by decide) ?_
        refine lv_iload_n hx hb dX8_become_302 rfl (lv_at hl 1 rfl) ?_
        refine lv_iadd hx hb dX8_become_303 ?_
        obtain ⟨g_122, h⟩ := g_n h
        refine va_bald (f := (x_aM 23)) hx hb hK hP 14 1 rfl rfl g_122 dX8_become_304 ?_
        obtain ⟨g_123, h⟩ := g_n h
        refine va_bast (f := (x_aM 23)) hx hb hK hP hD hS 14 1 rfl rfl g_123 dX8_become_305 (fun H locs hP hD hS => ?_)
        have hP : va_P (dC, dI) vwCl (zzM ad cy x_iM (us x_aM [(23, (upd ((x_aM 23)) v1.toNatClampNeg (vp_nar .byte ((((x_aM 23)) (((40 : Int32) + v1)).toNatClampNeg)))))])) H := Eq.mp (congrArg (fun w => va_P (dC, dI) vwCl w H) (sfM_aM23 ad cy x_iM x_aM ((upd ((x_aM 23)) v1.toNatClampNeg (vp_nar .byte ((((x_aM 23)) (((40 : Int32) + v1)).toNatClampNeg))))))) hP
        have hD : va_D A (zzM ad cy x_iM (us x_aM [(23, (upd ((x_aM 23)) v1.toNatClampNeg (vp_nar .byte ((((x_aM 23)) (((40 : Int32) + v1)).toNatClampNeg)))))])) := Eq.mp (congrArg (fun w => va_D A w) (sfM_aM23 ad cy x_iM x_aM ((upd ((x_aM 23)) v1.toNatClampNeg (vp_nar .byte ((((x_aM 23)) (((40 : Int32) + v1)).toNatClampNeg))))))) hD
        refine lv_iinc (v := (v1 + (1 : Int32))) (lv' := [(1, .int ((v1 + (1 : Int32)))), (0, .ref (ad 0))]) hx hb dX8_become_306 hl (k := 1) rfl rfl (by decide) rfl (fun ls hl => ?_)
        refine lv_goto (tgt := 285) hx hb dX8_become_309 (by decide) ?_
        exact ih x_iM ((v1 + (1 : Int32))) ((us x_aM [(23, (upd ((x_aM 23)) v1.toNatClampNeg (vp_nar .byte ((((x_aM 23)) (((40 : Int32) + v1)).toNatClampNeg)))))])) H locs ls h hP hD hS (lv_sub hl [1, 0] rfl)
  have B238 : ∀ (n : Nat) (x_iM : Nat → Int32) (v1 : Int32) (x_aM : Nat → Nat → Int32) (H : Heap) (locs : List Loc) (ls : Array Slot), f_M_become_238 N iM aM x_iM n v1 x_aM = some q → va_P (dC, dI) vwCl (zzM ad cy x_iM x_aM) H → va_D A (zzM ad cy x_iM x_aM) → va_S A s.heap H locs → lv_has ls 3 [(0, .ref (ad 0)), (1, .int v1)] → W p l e ({ frames := 5, cells := 0, slots := 0, locals := 120 } : Room) s m args below meth c H locs 0 0 QQ (F0 m 238 ls []) := by
    intro n
    induction n with
    | zero =>
      intro x_iM v1 x_aM H locs ls h hP hD hS hl
      rw [f_M_become_238] at h
      cases h
    | succ n ih =>
      intro x_iM v1 x_aM H locs ls h hP hD hS hl
      rw [f_M_become_238] at h
      refine lv_iload_n hx hb dX8_become_238 rfl (lv_at hl 1 rfl) ?_
      refine lv_bipush (v := 12) hx hb dX8_become_239 (by decide) ?_
      refine lv_icmp_ge (tgt := 283) hx hb dX8_become_241 (by decide) (fun cz => ?_) (fun cz => ?_)
      · have h := g_t h cz
        refine lv_iconst (v := 0) hx hb dX8_become_283 (by decide) ?_
        refine lv_istore_n (lv' := [(1, .int ((0 : Int32))), (0, .ref (ad 0))]) hx hb dX8_become_284 rfl hl (by decide) rfl (fun ls hl => ?_)
        exact B285 N x_iM ((0 : Int32)) x_aM H locs ls h hP hD hS (lv_sub hl [1, 0] rfl)
      · have h := g_f h cz
        refine lv_aload_n hx hb dX8_become_244 rfl (lv_at hl 0 rfl) ?_
        refine va_get (D := (dC, dI)) (ci := 8) (v := .ref (ad 12)) (C := RX8) (T := TX8) (N := 78) hx hb hts ki8 hown hK hP 0 rfl rfl 19 (by decide) kf45 (fun _ h9 => h9) rfl dX8_become_245 ?_
        refine lv_iload_n hx hb dX8_become_248 rfl (lv_at hl 1 rfl) ?_
        refine lv_aload_n hx hb dX8_become_249 rfl (lv_at hl 0 rfl) ?_
        refine va_get (D := (dC, dI)) (ci := 8) (v := .ref (ad 12)) (C := RX8) (T := TX8) (N := 78) hx hb hts ki8 hown hK hP 0 rfl rfl 19 (by decide) kf45 (fun _ h9 => h9) rfl dX8_become_250 ?_
        refine lv_bipush (v := 12) hx hb dX8_become_253 (by decide) ?_
        refine lv_iload_n hx hb dX8_become_255 rfl (lv_at hl 1 rfl) ?_
        refine lv_iadd hx hb dX8_become_256 ?_
        obtain ⟨g_124, h⟩ := g_n h
        refine va_iald (f := (x_aM 19)) hx hb hK hP 12 0 rfl rfl g_124 dX8_become_257 ?_
        obtain ⟨g_125, h⟩ := g_n h
        refine va_iast (f := (x_aM 19)) hx hb hK hP hD hS 12 0 rfl rfl g_125 dX8_become_258 (fun H locs hP hD hS => ?_)
        have hP : va_P (dC, dI) vwCl (zzM ad cy x_iM (us x_aM [(19, (upd ((x_aM 19)) v1.toNatClampNeg ((((x_aM 19)) (((12 : Int32) + v1)).toNatClampNeg))))])) H := Eq.mp (congrArg (fun w => va_P (dC, dI) vwCl w H) (sfM_aM19 ad cy x_iM x_aM ((upd ((x_aM 19)) v1.toNatClampNeg ((((x_aM 19)) (((12 : Int32) + v1)).toNatClampNeg)))))) hP
        have hD : va_D A (zzM ad cy x_iM (us x_aM [(19, (upd ((x_aM 19)) v1.toNatClampNeg ((((x_aM 19)) (((12 : Int32) + v1)).toNatClampNeg))))])) := Eq.mp (congrArg (fun w => va_D A w) (sfM_aM19 ad cy x_iM x_aM ((upd ((x_aM 19)) v1.toNatClampNeg ((((x_aM 19)) (((12 : Int32) + v1)).toNatClampNeg)))))) hD
        refine lv_aload_n hx hb dX8_become_259 rfl (lv_at hl 0 rfl) ?_
        refine va_get (D := (dC, dI)) (ci := 8) (v := .ref (ad 13)) (C := RX8) (T := TX8) (N := 78) hx hb hts ki8 hown hK hP 0 rfl rfl 21 (by decide) kf48 (fun _ h9 => h9) rfl dX8_become_260 ?_
        refine lv_iload_n hx hb dX8_become_263 rfl (lv_at hl 1 rfl) ?_
        refine lv_aload_n hx hb dX8_become_264 rfl (lv_at hl 0 rfl) ?_
        refine va_get (D := (dC, dI)) (ci := 8) (v := .ref (ad 13)) (C := RX8) (T := TX8) (N := 78) hx hb hts ki8 hown hK hP 0 rfl rfl 21 (by decide) kf48 (fun _ h9 => h9) rfl dX8_become_265 ?_
        refine lv_bipush (v := 12) hx hb dX8_become_268 (by decide) ?_
        refine lv_iload_n hx hb dX8_become_270 rfl (lv_at hl 1 rfl) ?_
        refine lv_iadd hx hb dX8_become_271 ?_
        refine va_iald (f := (x_aM 21)) hx hb hK hP 13 0 rfl rfl g_124 dX8_become_272 ?_
        obtain ⟨q273, e273, h⟩ := g_b h
        refine callSi (cc := cX8_become) (ws' := zzM ad cy x_iM (us x_aM [(19, (upd ((x_aM 19)) v1.toNatClampNeg ((((x_aM 19)) (((12 : Int32) + v1)).toNatClampNeg))))])) (As := [.int ((((x_aM 21)) (((12 : Int32) + v1)).toNatClampNeg))]) (rest := [.int v1, .ref (ad 13)]) ⟨hx, hb, hml, hown, hts⟩ (c_M_moved l dC dI cy ad H.size ((((x_aM 21)) (((12 : Int32) + v1)).toNatClampNeg)) q273 e273) (va_cwS 1 hts (goodS m_ml_X8_335 m_st_X8_moved m_in_X8 m_cd_X8_moved) rfl rfl rfl (by decide +kernel) ⟨Nat.le_of_ble_eq_true rfl, Nat.le_of_ble_eq_true rfl⟩) hN hK hP hD hS hA [] [none, none, none, none, none, none, none, none, none, none, none, none, none, none, none, none, none, none, none, none, none, none, none, none, none, none, none, none, none, none, none, none, none, none, none, none, none, none, none, none, none, none, none, none] rfl rfl rfl rfl rfl rfl rfl hl.1 rfl (Nat.le_of_ble_eq_true rfl) dX8_become_273 ⟨Nat.zero_le _, Nat.zero_le _⟩ (fun H locs hP hD hS => ?_)
        refine va_iast (f := (x_aM 21)) hx hb hK hP hD hS 13 0 rfl rfl g_125 dX8_become_276 (fun H locs hP hD hS => ?_)
        have hP : va_P (dC, dI) vwCl (zzM ad cy x_iM (us x_aM [(19, (upd ((x_aM 19)) v1.toNatClampNeg ((((x_aM 19)) (((12 : Int32) + v1)).toNatClampNeg)))), (21, (upd ((x_aM 21)) v1.toNatClampNeg q273))])) H := Eq.mp (congrArg (fun w => va_P (dC, dI) vwCl w H) (stM_aM21 ad cy x_iM x_aM [(19, (upd ((x_aM 19)) v1.toNatClampNeg ((((x_aM 19)) (((12 : Int32) + v1)).toNatClampNeg))))] ((upd ((x_aM 21)) v1.toNatClampNeg q273)))) hP
        have hD : va_D A (zzM ad cy x_iM (us x_aM [(19, (upd ((x_aM 19)) v1.toNatClampNeg ((((x_aM 19)) (((12 : Int32) + v1)).toNatClampNeg)))), (21, (upd ((x_aM 21)) v1.toNatClampNeg q273))])) := Eq.mp (congrArg (fun w => va_D A w) (stM_aM21 ad cy x_iM x_aM [(19, (upd ((x_aM 19)) v1.toNatClampNeg ((((x_aM 19)) (((12 : Int32) + v1)).toNatClampNeg))))] ((upd ((x_aM 21)) v1.toNatClampNeg q273)))) hD
        refine lv_iinc (v := (v1 + (1 : Int32))) (lv' := [(1, .int ((v1 + (1 : Int32)))), (0, .ref (ad 0))]) hx hb dX8_become_277 hl (k := 1) rfl rfl (by decide) rfl (fun ls hl => ?_)
        refine lv_goto (tgt := 238) hx hb dX8_become_280 (by decide) ?_
        exact ih x_iM ((v1 + (1 : Int32))) ((us x_aM [(19, (upd ((x_aM 19)) v1.toNatClampNeg ((((x_aM 19)) (((12 : Int32) + v1)).toNatClampNeg)))), (21, (upd ((x_aM 21)) v1.toNatClampNeg q273))])) H locs ls h hP hD hS (lv_sub hl [1, 0] rfl)
  have B128 : ∀ (n : Nat) (x_iM : Nat → Int32) (v1 : Int32) (x_aM : Nat → Nat → Int32) (H : Heap) (locs : List Loc) (ls : Array Slot), f_M_become_128 N iM aM x_iM n v1 x_aM = some q → va_P (dC, dI) vwCl (zzM ad cy x_iM x_aM) H → va_D A (zzM ad cy x_iM x_aM) → va_S A s.heap H locs → lv_has ls 3 [(0, .ref (ad 0)), (1, .int v1)] → W p l e ({ frames := 5, cells := 0, slots := 0, locals := 120 } : Room) s m args below meth c H locs 0 0 QQ (F0 m 128 ls []) := by
    intro n
    induction n with
    | zero =>
      intro x_iM v1 x_aM H locs ls h hP hD hS hl
      rw [f_M_become_128] at h
      cases h
    | succ n ih =>
      intro x_iM v1 x_aM H locs ls h hP hD hS hl
      rw [f_M_become_128] at h
      refine lv_iload_n hx hb dX8_become_128 rfl (lv_at hl 1 rfl) ?_
      refine lv_aload_n hx hb dX8_become_129 rfl (lv_at hl 0 rfl) ?_
      refine va_get (D := (dC, dI)) (ci := 8) (v := .int ((x_iM 18))) (C := RX8) (T := TX8) (N := 78) hx hb hts ki8 hown hK hP 0 rfl rfl 18 (by decide) kf338 (fun _ h9 => h9) rfl dX8_become_130 ?_
      refine lv_icmp_ge (tgt := 196) hx hb dX8_become_133 (by decide) (fun cz => ?_) (fun cz => ?_)
      · have h := g_t h cz
        refine lv_aload_n hx hb dX8_become_196 rfl (lv_at hl 0 rfl) ?_
        refine lv_aload_n hx hb dX8_become_197 rfl (lv_at hl 0 rfl) ?_
        refine va_get (D := (dC, dI)) (ci := 8) (v := .int ((x_iM 41))) (C := RX8) (T := TX8) (N := 78) hx hb hts ki8 hown hK hP 0 rfl rfl 41 (by decide) kf311 (fun _ h9 => h9) rfl dX8_become_198 ?_
        refine va_put (D := (dC, dI)) (ci := 8) (v := .int ((x_iM 41))) (ty := .int) (C := RX8) (T := TX8) (N := 78) hx hb hts ki8 tyX8 tyX8_ok nmX8 hown hK hP hD hS 0 rfl rfl 20 (by decide) kf341 (fun _ h9 => h9) rfl (by decide +kernel) rfl rfl (Nat.le_of_ble_eq_true rfl) dX8_become_201 (fun H locs hP hD hS => ?_)
        have hP : va_P (dC, dI) vwCl (zzM ad cy (us x_iM [(20, (x_iM 41))]) x_aM) H := Eq.mp (congrArg (fun w => va_P (dC, dI) vwCl w H) (sfM_iM20 ad cy x_iM x_aM ((x_iM 41)))) hP
        have hD : va_D A (zzM ad cy (us x_iM [(20, (x_iM 41))]) x_aM) := Eq.mp (congrArg (fun w => va_D A w) (sfM_iM20 ad cy x_iM x_aM ((x_iM 41)))) hD
        refine lv_aload_n hx hb dX8_become_204 rfl (lv_at hl 0 rfl) ?_
        refine lv_aload_n hx hb dX8_become_205 rfl (lv_at hl 0 rfl) ?_
        refine va_get (D := (dC, dI)) (ci := 8) (v := .int ((x_iM 42))) (C := RX8) (T := TX8) (N := 78) hx hb hts ki8 hown hK hP 0 rfl rfl 42 (by decide) kf305 (fun _ h9 => h9) rfl dX8_become_206 ?_
        refine va_put (D := (dC, dI)) (ci := 8) (v := .int ((x_iM 42))) (ty := .int) (C := RX8) (T := TX8) (N := 78) hx hb hts ki8 tyX8 tyX8_ok nmX8 hown hK hP hD hS 0 rfl rfl 22 (by decide) kf344 (fun _ h9 => h9) rfl (by decide +kernel) rfl rfl (Nat.le_of_ble_eq_true rfl) dX8_become_209 (fun H locs hP hD hS => ?_)
        have hP : va_P (dC, dI) vwCl (zzM ad cy (us x_iM [(20, (x_iM 41)), (22, (x_iM 42))]) x_aM) H := Eq.mp (congrArg (fun w => va_P (dC, dI) vwCl w H) (stM_iM22 ad cy x_iM x_aM [(20, (x_iM 41))] ((x_iM 42)))) hP
        have hD : va_D A (zzM ad cy (us x_iM [(20, (x_iM 41)), (22, (x_iM 42))]) x_aM) := Eq.mp (congrArg (fun w => va_D A w) (stM_iM22 ad cy x_iM x_aM [(20, (x_iM 41))] ((x_iM 42)))) hD
        refine lv_aload_n hx hb dX8_become_212 rfl (lv_at hl 0 rfl) ?_
        refine lv_aload_n hx hb dX8_become_213 rfl (lv_at hl 0 rfl) ?_
        refine va_get (D := (dC, dI)) (ci := 8) (v := .int ((x_iM 43))) (C := RX8) (T := TX8) (N := 78) hx hb hts ki8 hown hK hP 0 rfl rfl 43 (by decide) kf214 (fun _ h9 => h9) rfl dX8_become_214 ?_
        refine va_put (D := (dC, dI)) (ci := 8) (v := .int ((x_iM 43))) (ty := .int) (C := RX8) (T := TX8) (N := 78) hx hb hts ki8 tyX8 tyX8_ok nmX8 hown hK hP hD hS 0 rfl rfl 25 (by decide) kf347 (fun _ h9 => h9) rfl (by decide +kernel) rfl rfl (Nat.le_of_ble_eq_true rfl) dX8_become_217 (fun H locs hP hD hS => ?_)
        have hP : va_P (dC, dI) vwCl (zzM ad cy (us x_iM [(20, (x_iM 41)), (22, (x_iM 42)), (25, (x_iM 43))]) x_aM) H := Eq.mp (congrArg (fun w => va_P (dC, dI) vwCl w H) (stM_iM25 ad cy x_iM x_aM [(20, (x_iM 41)), (22, (x_iM 42))] ((x_iM 43)))) hP
        have hD : va_D A (zzM ad cy (us x_iM [(20, (x_iM 41)), (22, (x_iM 42)), (25, (x_iM 43))]) x_aM) := Eq.mp (congrArg (fun w => va_D A w) (stM_iM25 ad cy x_iM x_aM [(20, (x_iM 41)), (22, (x_iM 42))] ((x_iM 43)))) hD
        refine lv_aload_n hx hb dX8_become_220 rfl (lv_at hl 0 rfl) ?_
        refine lv_aload_n hx hb dX8_become_221 rfl (lv_at hl 0 rfl) ?_
        refine va_get (D := (dC, dI)) (ci := 8) (v := .int ((x_iM 44))) (C := RX8) (T := TX8) (N := 78) hx hb hts ki8 hown hK hP 0 rfl rfl 44 (by decide) kf221 (fun _ h9 => h9) rfl dX8_become_222 ?_
        refine va_put (D := (dC, dI)) (ci := 8) (v := .int ((x_iM 44))) (ty := .int) (C := RX8) (T := TX8) (N := 78) hx hb hts ki8 tyX8 tyX8_ok nmX8 hown hK hP hD hS 0 rfl rfl 28 (by decide) kf350 (fun _ h9 => h9) rfl (by decide +kernel) rfl rfl (Nat.le_of_ble_eq_true rfl) dX8_become_225 (fun H locs hP hD hS => ?_)
        have hP : va_P (dC, dI) vwCl (zzM ad cy (us x_iM [(20, (x_iM 41)), (22, (x_iM 42)), (25, (x_iM 43)), (28, (x_iM 44))]) x_aM) H := Eq.mp (congrArg (fun w => va_P (dC, dI) vwCl w H) (stM_iM28 ad cy x_iM x_aM [(20, (x_iM 41)), (22, (x_iM 42)), (25, (x_iM 43))] ((x_iM 44)))) hP
        have hD : va_D A (zzM ad cy (us x_iM [(20, (x_iM 41)), (22, (x_iM 42)), (25, (x_iM 43)), (28, (x_iM 44))]) x_aM) := Eq.mp (congrArg (fun w => va_D A w) (stM_iM28 ad cy x_iM x_aM [(20, (x_iM 41)), (22, (x_iM 42)), (25, (x_iM 43))] ((x_iM 44)))) hD
        refine lv_aload_n hx hb dX8_become_228 rfl (lv_at hl 0 rfl) ?_
        refine lv_aload_n hx hb dX8_become_229 rfl (lv_at hl 0 rfl) ?_
        refine va_get (D := (dC, dI)) (ci := 8) (v := .int ((x_iM 45))) (C := RX8) (T := TX8) (N := 78) hx hb hts ki8 hown hK hP 0 rfl rfl 45 (by decide) kf234 (fun _ h9 => h9) rfl dX8_become_230 ?_
        refine va_put (D := (dC, dI)) (ci := 8) (v := .int ((x_iM 45))) (ty := .int) (C := RX8) (T := TX8) (N := 78) hx hb hts ki8 tyX8 tyX8_ok nmX8 hown hK hP hD hS 0 rfl rfl 36 (by decide) kf353 (fun _ h9 => h9) rfl (by decide +kernel) rfl rfl (Nat.le_of_ble_eq_true rfl) dX8_become_233 (fun H locs hP hD hS => ?_)
        have hP : va_P (dC, dI) vwCl (zzM ad cy (us x_iM [(20, (x_iM 41)), (22, (x_iM 42)), (25, (x_iM 43)), (28, (x_iM 44)), (36, (x_iM 45))]) x_aM) H := Eq.mp (congrArg (fun w => va_P (dC, dI) vwCl w H) (stM_iM36 ad cy x_iM x_aM [(20, (x_iM 41)), (22, (x_iM 42)), (25, (x_iM 43)), (28, (x_iM 44))] ((x_iM 45)))) hP
        have hD : va_D A (zzM ad cy (us x_iM [(20, (x_iM 41)), (22, (x_iM 42)), (25, (x_iM 43)), (28, (x_iM 44)), (36, (x_iM 45))]) x_aM) := Eq.mp (congrArg (fun w => va_D A w) (stM_iM36 ad cy x_iM x_aM [(20, (x_iM 41)), (22, (x_iM 42)), (25, (x_iM 43)), (28, (x_iM 44))] ((x_iM 45)))) hD
        refine lv_iconst (v := 0) hx hb dX8_become_236 (by decide) ?_
        refine lv_istore_n (lv' := [(1, .int ((0 : Int32))), (0, .ref (ad 0))]) hx hb dX8_become_237 rfl hl (by decide) rfl (fun ls hl => ?_)
        exact B238 N ((us x_iM [(20, (x_iM 41)), (22, (x_iM 42)), (25, (x_iM 43)), (28, (x_iM 44)), (36, (x_iM 45))])) ((0 : Int32)) x_aM H locs ls h hP hD hS (lv_sub hl [1, 0] rfl)
      · have h := g_f h cz
        refine lv_aload_n hx hb dX8_become_136 rfl (lv_at hl 0 rfl) ?_
        refine va_get (D := (dC, dI)) (ci := 8) (v := .ref (ad 9)) (C := RX8) (T := TX8) (N := 78) hx hb hts ki8 hown hK hP 0 rfl rfl 15 (by decide) kf36 (fun _ h9 => h9) rfl dX8_become_137 ?_
        refine lv_iload_n hx hb dX8_become_140 rfl (lv_at hl 1 rfl) ?_
        refine lv_aload_n hx hb dX8_become_141 rfl (lv_at hl 0 rfl) ?_
        refine va_get (D := (dC, dI)) (ci := 8) (v := .ref (ad 9)) (C := RX8) (T := TX8) (N := 78) hx hb hts ki8 hown hK hP 0 rfl rfl 15 (by decide) kf36 (fun _ h9 => h9) rfl dX8_become_142 ?_
        refine lv_sipush (v := 250) hx hb dX8_become_145 (by decide) ?_
        refine lv_iload_n hx hb dX8_become_148 rfl (lv_at hl 1 rfl) ?_
        refine lv_iadd hx hb dX8_become_149 ?_
        obtain ⟨g_126, h⟩ := g_n h
        refine va_iald (f := (x_aM 15)) hx hb hK hP 9 0 rfl rfl g_126 dX8_become_150 ?_
        obtain ⟨g_127, h⟩ := g_n h
        refine va_iast (f := (x_aM 15)) hx hb hK hP hD hS 9 0 rfl rfl g_127 dX8_become_151 (fun H locs hP hD hS => ?_)
        have hP : va_P (dC, dI) vwCl (zzM ad cy x_iM (us x_aM [(15, (upd ((x_aM 15)) v1.toNatClampNeg ((((x_aM 15)) (((250 : Int32) + v1)).toNatClampNeg))))])) H := Eq.mp (congrArg (fun w => va_P (dC, dI) vwCl w H) (sfM_aM15 ad cy x_iM x_aM ((upd ((x_aM 15)) v1.toNatClampNeg ((((x_aM 15)) (((250 : Int32) + v1)).toNatClampNeg)))))) hP
        have hD : va_D A (zzM ad cy x_iM (us x_aM [(15, (upd ((x_aM 15)) v1.toNatClampNeg ((((x_aM 15)) (((250 : Int32) + v1)).toNatClampNeg))))])) := Eq.mp (congrArg (fun w => va_D A w) (sfM_aM15 ad cy x_iM x_aM ((upd ((x_aM 15)) v1.toNatClampNeg ((((x_aM 15)) (((250 : Int32) + v1)).toNatClampNeg)))))) hD
        refine lv_aload_n hx hb dX8_become_152 rfl (lv_at hl 0 rfl) ?_
        refine va_get (D := (dC, dI)) (ci := 8) (v := .ref (ad 10)) (C := RX8) (T := TX8) (N := 78) hx hb hts ki8 hown hK hP 0 rfl rfl 16 (by decide) kf39 (fun _ h9 => h9) rfl dX8_become_153 ?_
        refine lv_iload_n hx hb dX8_become_156 rfl (lv_at hl 1 rfl) ?_
        refine lv_aload_n hx hb dX8_become_157 rfl (lv_at hl 0 rfl) ?_
        refine va_get (D := (dC, dI)) (ci := 8) (v := .ref (ad 10)) (C := RX8) (T := TX8) (N := 78) hx hb hts ki8 hown hK hP 0 rfl rfl 16 (by decide) kf39 (fun _ h9 => h9) rfl dX8_become_158 ?_
        refine lv_sipush (v := 250) hx hb dX8_become_161 (by decide) ?_
        refine lv_iload_n hx hb dX8_become_164 rfl (lv_at hl 1 rfl) ?_
        refine lv_iadd hx hb dX8_become_165 ?_
        refine va_iald (f := (x_aM 16)) hx hb hK hP 10 0 rfl rfl g_126 dX8_become_166 ?_
        obtain ⟨q167, e167, h⟩ := g_b h
        refine callSi (cc := cX8_become) (ws' := zzM ad cy x_iM (us x_aM [(15, (upd ((x_aM 15)) v1.toNatClampNeg ((((x_aM 15)) (((250 : Int32) + v1)).toNatClampNeg))))])) (As := [.int ((((x_aM 16)) (((250 : Int32) + v1)).toNatClampNeg))]) (rest := [.int v1, .ref (ad 10)]) ⟨hx, hb, hml, hown, hts⟩ (c_M_moved l dC dI cy ad H.size ((((x_aM 16)) (((250 : Int32) + v1)).toNatClampNeg)) q167 e167) (va_cwS 1 hts (goodS m_ml_X8_335 m_st_X8_moved m_in_X8 m_cd_X8_moved) rfl rfl rfl (by decide +kernel) ⟨Nat.le_of_ble_eq_true rfl, Nat.le_of_ble_eq_true rfl⟩) hN hK hP hD hS hA [] [none, none, none, none, none, none, none, none, none, none, none, none, none, none, none, none, none, none, none, none, none, none, none, none, none, none, none, none, none, none, none, none, none, none, none, none, none, none, none, none, none, none, none, none] rfl rfl rfl rfl rfl rfl rfl hl.1 rfl (Nat.le_of_ble_eq_true rfl) dX8_become_167 ⟨Nat.zero_le _, Nat.zero_le _⟩ (fun H locs hP hD hS => ?_)
        refine va_iast (f := (x_aM 16)) hx hb hK hP hD hS 10 0 rfl rfl g_127 dX8_become_170 (fun H locs hP hD hS => ?_)
        have hP : va_P (dC, dI) vwCl (zzM ad cy x_iM (us x_aM [(15, (upd ((x_aM 15)) v1.toNatClampNeg ((((x_aM 15)) (((250 : Int32) + v1)).toNatClampNeg)))), (16, (upd ((x_aM 16)) v1.toNatClampNeg q167))])) H := Eq.mp (congrArg (fun w => va_P (dC, dI) vwCl w H) (stM_aM16 ad cy x_iM x_aM [(15, (upd ((x_aM 15)) v1.toNatClampNeg ((((x_aM 15)) (((250 : Int32) + v1)).toNatClampNeg))))] ((upd ((x_aM 16)) v1.toNatClampNeg q167)))) hP
        have hD : va_D A (zzM ad cy x_iM (us x_aM [(15, (upd ((x_aM 15)) v1.toNatClampNeg ((((x_aM 15)) (((250 : Int32) + v1)).toNatClampNeg)))), (16, (upd ((x_aM 16)) v1.toNatClampNeg q167))])) := Eq.mp (congrArg (fun w => va_D A w) (stM_aM16 ad cy x_iM x_aM [(15, (upd ((x_aM 15)) v1.toNatClampNeg ((((x_aM 15)) (((250 : Int32) + v1)).toNatClampNeg))))] ((upd ((x_aM 16)) v1.toNatClampNeg q167)))) hD
        refine lv_aload_n hx hb dX8_become_171 rfl (lv_at hl 0 rfl) ?_
        refine va_get (D := (dC, dI)) (ci := 8) (v := .ref (ad 11)) (C := RX8) (T := TX8) (N := 78) hx hb hts ki8 hown hK hP 0 rfl rfl 17 (by decide) kf42 (fun _ h9 => h9) rfl dX8_become_172 ?_
        refine lv_iload_n hx hb dX8_become_175 rfl (lv_at hl 1 rfl) ?_
        refine lv_aload_n hx hb dX8_become_176 rfl (lv_at hl 0 rfl) ?_
        refine va_get (D := (dC, dI)) (ci := 8) (v := .ref (ad 11)) (C := RX8) (T := TX8) (N := 78) hx hb hts ki8 hown hK hP 0 rfl rfl 17 (by decide) kf42 (fun _ h9 => h9) rfl dX8_become_177 ?_
        refine lv_sipush (v := 250) hx hb dX8_become_180 (by decide) ?_
        refine lv_iload_n hx hb dX8_become_183 rfl (lv_at hl 1 rfl) ?_
        refine lv_iadd hx hb dX8_become_184 ?_
        refine va_iald (f := (x_aM 17)) hx hb hK hP 11 0 rfl rfl g_126 dX8_become_185 ?_
        obtain ⟨q186, e186, h⟩ := g_b h
        refine callSi (cc := cX8_become) (ws' := zzM ad cy x_iM (us x_aM [(15, (upd ((x_aM 15)) v1.toNatClampNeg ((((x_aM 15)) (((250 : Int32) + v1)).toNatClampNeg)))), (16, (upd ((x_aM 16)) v1.toNatClampNeg q167))])) (As := [.int ((((x_aM 17)) (((250 : Int32) + v1)).toNatClampNeg))]) (rest := [.int v1, .ref (ad 11)]) ⟨hx, hb, hml, hown, hts⟩ (c_M_moved l dC dI cy ad H.size ((((x_aM 17)) (((250 : Int32) + v1)).toNatClampNeg)) q186 e186) (va_cwS 1 hts (goodS m_ml_X8_335 m_st_X8_moved m_in_X8 m_cd_X8_moved) rfl rfl rfl (by decide +kernel) ⟨Nat.le_of_ble_eq_true rfl, Nat.le_of_ble_eq_true rfl⟩) hN hK hP hD hS hA [] [none, none, none, none, none, none, none, none, none, none, none, none, none, none, none, none, none, none, none, none, none, none, none, none, none, none, none, none, none, none, none, none, none, none, none, none, none, none, none, none, none, none, none, none] rfl rfl rfl rfl rfl rfl rfl hl.1 rfl (Nat.le_of_ble_eq_true rfl) dX8_become_186 ⟨Nat.zero_le _, Nat.zero_le _⟩ (fun H locs hP hD hS => ?_)
        refine va_iast (f := (x_aM 17)) hx hb hK hP hD hS 11 0 rfl rfl g_127 dX8_become_189 (fun H locs hP hD hS => ?_)
        have hP : va_P (dC, dI) vwCl (zzM ad cy x_iM (us x_aM [(15, (upd ((x_aM 15)) v1.toNatClampNeg ((((x_aM 15)) (((250 : Int32) + v1)).toNatClampNeg)))), (16, (upd ((x_aM 16)) v1.toNatClampNeg q167)), (17, (upd ((x_aM 17)) v1.toNatClampNeg q186))])) H := Eq.mp (congrArg (fun w => va_P (dC, dI) vwCl w H) (stM_aM17 ad cy x_iM x_aM [(15, (upd ((x_aM 15)) v1.toNatClampNeg ((((x_aM 15)) (((250 : Int32) + v1)).toNatClampNeg)))), (16, (upd ((x_aM 16)) v1.toNatClampNeg q167))] ((upd ((x_aM 17)) v1.toNatClampNeg q186)))) hP
        have hD : va_D A (zzM ad cy x_iM (us x_aM [(15, (upd ((x_aM 15)) v1.toNatClampNeg ((((x_aM 15)) (((250 : Int32) + v1)).toNatClampNeg)))), (16, (upd ((x_aM 16)) v1.toNatClampNeg q167)), (17, (upd ((x_aM 17)) v1.toNatClampNeg q186))])) := Eq.mp (congrArg (fun w => va_D A w) (stM_aM17 ad cy x_iM x_aM [(15, (upd ((x_aM 15)) v1.toNatClampNeg ((((x_aM 15)) (((250 : Int32) + v1)).toNatClampNeg)))), (16, (upd ((x_aM 16)) v1.toNatClampNeg q167))] ((upd ((x_aM 17)) v1.toNatClampNeg q186)))) hD
        refine lv_iinc (v := (v1 + (1 : Int32))) (lv' := [(1, .int ((v1 + (1 : Int32)))), (0, .ref (ad 0))]) hx hb dX8_become_190 hl (k := 1) rfl rfl (by decide) rfl (fun ls hl => ?_)
        refine lv_goto (tgt := 128) hx hb dX8_become_193 (by decide) ?_
        exact ih x_iM ((v1 + (1 : Int32))) ((us x_aM [(15, (upd ((x_aM 15)) v1.toNatClampNeg ((((x_aM 15)) (((250 : Int32) + v1)).toNatClampNeg)))), (16, (upd ((x_aM 16)) v1.toNatClampNeg q167)), (17, (upd ((x_aM 17)) v1.toNatClampNeg q186))])) H locs ls h hP hD hS (lv_sub hl [1, 0] rfl)
  have B10 : ∀ (n : Nat) (x_iM : Nat → Int32) (v1 : Int32) (x_aM : Nat → Nat → Int32) (H : Heap) (locs : List Loc) (ls : Array Slot), f_M_become_10 N iM aM x_iM n v1 x_aM = some q → va_P (dC, dI) vwCl (zzM ad cy x_iM x_aM) H → va_D A (zzM ad cy x_iM x_aM) → va_S A s.heap H locs → lv_has ls 3 [(0, .ref (ad 0)), (1, .int v1)] → W p l e ({ frames := 5, cells := 0, slots := 0, locals := 120 } : Room) s m args below meth c H locs 0 0 QQ (F0 m 10 ls []) := by
    intro n
    induction n with
    | zero =>
      intro x_iM v1 x_aM H locs ls h hP hD hS hl
      rw [f_M_become_10] at h
      cases h
    | succ n ih =>
      intro x_iM v1 x_aM H locs ls h hP hD hS hl
      rw [f_M_become_10] at h
      refine lv_iload_n hx hb dX8_become_10 rfl (lv_at hl 1 rfl) ?_
      refine lv_aload_n hx hb dX8_become_11 rfl (lv_at hl 0 rfl) ?_
      refine va_get (D := (dC, dI)) (ci := 8) (v := .int ((x_iM 14))) (C := RX8) (T := TX8) (N := 78) hx hb hts ki8 hown hK hP 0 rfl rfl 14 (by decide) kf332 (fun _ h9 => h9) rfl dX8_become_12 ?_
      refine lv_icmp_ge (tgt := 118) hx hb dX8_become_15 (by decide) (fun cz => ?_) (fun cz => ?_)
      · have h := g_t h cz
        refine lv_aload_n hx hb dX8_become_118 rfl (lv_at hl 0 rfl) ?_
        refine lv_aload_n hx hb dX8_become_119 rfl (lv_at hl 0 rfl) ?_
        refine va_get (D := (dC, dI)) (ci := 8) (v := .int ((x_iM 40))) (C := RX8) (T := TX8) (N := 78) hx hb hts ki8 hown hK hP 0 rfl rfl 40 (by decide) kf295 (fun _ h9 => h9) rfl dX8_become_120 ?_
        refine va_put (D := (dC, dI)) (ci := 8) (v := .int ((x_iM 40))) (ty := .int) (C := RX8) (T := TX8) (N := 78) hx hb hts ki8 tyX8 tyX8_ok nmX8 hown hK hP hD hS 0 rfl rfl 18 (by decide) kf338 (fun _ h9 => h9) rfl (by decide +kernel) rfl rfl (Nat.le_of_ble_eq_true rfl) dX8_become_123 (fun H locs hP hD hS => ?_)
        have hP : va_P (dC, dI) vwCl (zzM ad cy (us x_iM [(18, (x_iM 40))]) x_aM) H := Eq.mp (congrArg (fun w => va_P (dC, dI) vwCl w H) (sfM_iM18 ad cy x_iM x_aM ((x_iM 40)))) hP
        have hD : va_D A (zzM ad cy (us x_iM [(18, (x_iM 40))]) x_aM) := Eq.mp (congrArg (fun w => va_D A w) (sfM_iM18 ad cy x_iM x_aM ((x_iM 40)))) hD
        refine lv_iconst (v := 0) hx hb dX8_become_126 (by decide) ?_
        refine lv_istore_n (lv' := [(1, .int ((0 : Int32))), (0, .ref (ad 0))]) hx hb dX8_become_127 rfl hl (by decide) rfl (fun ls hl => ?_)
        exact B128 N ((us x_iM [(18, (x_iM 40))])) ((0 : Int32)) x_aM H locs ls h hP hD hS (lv_sub hl [1, 0] rfl)
      · have h := g_f h cz
        refine lv_sipush (v := 200) hx hb dX8_become_18 (by decide) ?_
        refine lv_iload_n hx hb dX8_become_21 rfl (lv_at hl 1 rfl) ?_
        refine lv_iadd hx hb dX8_become_22 ?_
        refine lv_istore_n (lv' := [(2, .int (((200 : Int32) + v1))), (0, .ref (ad 0)), (1, .int v1)]) hx hb dX8_become_23 rfl hl (by decide) rfl (fun ls hl => ?_)
        refine lv_aload_n hx hb dX8_become_24 rfl (lv_at hl 1 rfl) ?_
        refine va_get (D := (dC, dI)) (ci := 8) (v := .ref (ad 3)) (C := RX8) (T := TX8) (N := 78) hx hb hts ki8 hown hK hP 0 rfl rfl 8 (by decide) kf17 (fun _ h9 => h9) rfl dX8_become_25 ?_
        refine lv_iload_n hx hb dX8_become_28 rfl (lv_at hl 2 rfl) ?_
        refine lv_aload_n hx hb dX8_become_29 rfl (lv_at hl 1 rfl) ?_
        refine va_get (D := (dC, dI)) (ci := 8) (v := .ref (ad 3)) (C := RX8) (T := TX8) (N := 78) hx hb hts ki8 hown hK hP 0 rfl rfl 8 (by decide) kf17 (fun _ h9 => h9) rfl dX8_become_30 ?_
        refine lv_iload_n hx hb dX8_become_33 rfl (lv_at hl 0 rfl) ?_
        obtain ⟨g_128, h⟩ := g_n h
        refine va_iald (f := (x_aM 8)) hx hb hK hP 3 0 rfl rfl g_128 dX8_become_34 ?_
        obtain ⟨g_62, h⟩ := g_n h
        refine va_iast (f := (x_aM 8)) hx hb hK hP hD hS 3 0 rfl rfl g_62 dX8_become_35 (fun H locs hP hD hS => ?_)
        have hP : va_P (dC, dI) vwCl (zzM ad cy x_iM (us x_aM [(8, (upd ((x_aM 8)) v1.toNatClampNeg ((((x_aM 8)) (((200 : Int32) + v1)).toNatClampNeg))))])) H := Eq.mp (congrArg (fun w => va_P (dC, dI) vwCl w H) (sfM_aM8 ad cy x_iM x_aM ((upd ((x_aM 8)) v1.toNatClampNeg ((((x_aM 8)) (((200 : Int32) + v1)).toNatClampNeg)))))) hP
        have hD : va_D A (zzM ad cy x_iM (us x_aM [(8, (upd ((x_aM 8)) v1.toNatClampNeg ((((x_aM 8)) (((200 : Int32) + v1)).toNatClampNeg))))])) := Eq.mp (congrArg (fun w => va_D A w) (sfM_aM8 ad cy x_iM x_aM ((upd ((x_aM 8)) v1.toNatClampNeg ((((x_aM 8)) (((200 : Int32) + v1)).toNatClampNeg)))))) hD
        refine lv_aload_n hx hb dX8_become_36 rfl (lv_at hl 1 rfl) ?_
        refine va_get (D := (dC, dI)) (ci := 8) (v := .ref (ad 4)) (C := RX8) (T := TX8) (N := 78) hx hb hts ki8 hown hK hP 0 rfl rfl 9 (by decide) kf21 (fun _ h9 => h9) rfl dX8_become_37 ?_
        refine lv_iload_n hx hb dX8_become_40 rfl (lv_at hl 2 rfl) ?_
        refine lv_aload_n hx hb dX8_become_41 rfl (lv_at hl 1 rfl) ?_
        refine va_get (D := (dC, dI)) (ci := 8) (v := .ref (ad 3)) (C := RX8) (T := TX8) (N := 78) hx hb hts ki8 hown hK hP 0 rfl rfl 8 (by decide) kf17 (fun _ h9 => h9) rfl dX8_become_42 ?_
        refine lv_iload_n hx hb dX8_become_45 rfl (lv_at hl 0 rfl) ?_
        refine va_iald (f := (upd ((x_aM 8)) v1.toNatClampNeg ((((x_aM 8)) (((200 : Int32) + v1)).toNatClampNeg)))) hx hb hK hP 3 0 rfl rfl g_128 dX8_become_46 ?_
        refine lv_iconst (v := 5) hx hb dX8_become_47 (by decide) ?_
        refine lv_icmp_le (tgt := 63) hx hb dX8_become_48 (by decide) (fun cz => ?_) (fun cz => ?_)
        · have h := g_t h cz
          refine lv_aload_n hx hb dX8_become_63 rfl (lv_at hl 1 rfl) ?_
          refine va_get (D := (dC, dI)) (ci := 8) (v := .ref (ad 4)) (C := RX8) (T := TX8) (N := 78) hx hb hts ki8 hown hK hP 0 rfl rfl 9 (by decide) kf21 (fun _ h9 => h9) rfl dX8_become_64 ?_
          refine lv_iload_n hx hb dX8_become_67 rfl (lv_at hl 0 rfl) ?_
          refine va_iald (f := (x_aM 9)) hx hb hK hP 4 0 rfl rfl g_128 dX8_become_68 ?_
          exact B69 v1 (((200 : Int32) + v1)) v1 ((((x_aM 9)) (((200 : Int32) + v1)).toNatClampNeg)) x_iM ((us x_aM [(8, (upd ((x_aM 8)) v1.toNatClampNeg ((((x_aM 8)) (((200 : Int32) + v1)).toNatClampNeg))))])) (f_M_become_10 N iM aM x_iM n) (ih x_iM) H locs ls h hP hD hS (lv_sub hl [1, 2, 0] rfl)
        · have h := g_f h cz
          refine lv_aload_n hx hb dX8_become_51 rfl (lv_at hl 1 rfl) ?_
          refine va_get (D := (dC, dI)) (ci := 8) (v := .ref (ad 4)) (C := RX8) (T := TX8) (N := 78) hx hb hts ki8 hown hK hP 0 rfl rfl 9 (by decide) kf21 (fun _ h9 => h9) rfl dX8_become_52 ?_
          refine lv_iload_n hx hb dX8_become_55 rfl (lv_at hl 0 rfl) ?_
          refine va_iald (f := (x_aM 9)) hx hb hK hP 4 0 rfl rfl g_128 dX8_become_56 ?_
          obtain ⟨q57, e57, h⟩ := g_b h
          refine callSi (cc := cX8_become) (ws' := zzM ad cy x_iM (us x_aM [(8, (upd ((x_aM 8)) v1.toNatClampNeg ((((x_aM 8)) (((200 : Int32) + v1)).toNatClampNeg))))])) (As := [.int ((((x_aM 9)) (((200 : Int32) + v1)).toNatClampNeg))]) (rest := [.int v1, .ref (ad 4)]) ⟨hx, hb, hml, hown, hts⟩ (c_M_moved l dC dI cy ad H.size ((((x_aM 9)) (((200 : Int32) + v1)).toNatClampNeg)) q57 e57) (va_cwS 1 hts (goodS m_ml_X8_335 m_st_X8_moved m_in_X8 m_cd_X8_moved) rfl rfl rfl (by decide +kernel) ⟨Nat.le_of_ble_eq_true rfl, Nat.le_of_ble_eq_true rfl⟩) hN hK hP hD hS hA [] [none, none, none, none, none, none, none, none, none, none, none, none, none, none, none, none, none, none, none, none, none, none, none, none, none, none, none, none, none, none, none, none, none, none, none, none, none, none, none, none, none, none, none, none] rfl rfl rfl rfl rfl rfl rfl hl.1 rfl (Nat.le_of_ble_eq_true rfl) dX8_become_57 ⟨Nat.zero_le _, Nat.zero_le _⟩ (fun H locs hP hD hS => ?_)
          refine lv_goto (tgt := 69) hx hb dX8_become_60 (by decide) ?_
          exact B69 v1 (((200 : Int32) + v1)) v1 q57 x_iM ((us x_aM [(8, (upd ((x_aM 8)) v1.toNatClampNeg ((((x_aM 8)) (((200 : Int32) + v1)).toNatClampNeg))))])) (f_M_become_10 N iM aM x_iM n) (ih x_iM) H locs ls h hP hD hS (lv_sub hl [1, 2, 0] rfl)
  intro H locs hP hD hS
  unfold f_M_become at h
  refine lv_aload_n hx hb dX8_become_0 rfl (lv_at hl 0 rfl) ?_
  refine lv_aload_n hx hb dX8_become_1 rfl (lv_at hl 0 rfl) ?_
  refine va_get (D := (dC, dI)) (ci := 8) (v := .int ((iM 38))) (C := RX8) (T := TX8) (N := 78) hx hb hts ki8 hown hK hP 0 rfl rfl 38 (by decide) kf211 (fun _ h9 => h9) rfl dX8_become_2 ?_
  refine va_put (D := (dC, dI)) (ci := 8) (v := .int ((iM 38))) (ty := .int) (C := RX8) (T := TX8) (N := 78) hx hb hts ki8 tyX8 tyX8_ok nmX8 hown hK hP hD hS 0 rfl rfl 14 (by decide) kf332 (fun _ h9 => h9) rfl (by decide +kernel) rfl rfl (Nat.le_of_ble_eq_true rfl) dX8_become_5 (fun H locs hP hD hS => ?_)
  have hP : va_P (dC, dI) vwCl (zzM ad cy (us iM [(14, (iM 38))]) aM) H := Eq.mp (congrArg (fun w => va_P (dC, dI) vwCl w H) (sfM_iM14 ad cy iM aM ((iM 38)))) hP
  have hD : va_D A (zzM ad cy (us iM [(14, (iM 38))]) aM) := Eq.mp (congrArg (fun w => va_D A w) (sfM_iM14 ad cy iM aM ((iM 38)))) hD
  refine lv_iconst (v := 0) hx hb dX8_become_8 (by decide) ?_
  refine lv_istore_n (lv' := [(1, .int ((0 : Int32))), (0, .ref (ad 0))]) hx hb dX8_become_9 rfl hl (by decide) rfl (fun ls hl => ?_)
  exact B10 N ((us iM [(14, (iM 38))])) ((0 : Int32)) aM H locs ls h hP hD hS (lv_sub hl [1, 0] rfl)
set_option maxHeartbeats 8000000 in
set_option maxRecDepth 100000 in
theorem c_M_read (l : Launch) (dC : Nat → ClassId) (dI : Nat → Nat → Nat) (cy : Nat → ClassId) (ad : Nat → Nat) (sz : Nat) (N : Nat) (iM : Nat → Int32) (aM : Nat → Nat → Int32) (q : Int32 × (Nat → Int32) × (Nat → Nat → Int32)) (h : f_M_read N iM aM = some q) : Met l yX8_read wsX8_read ({ frames := 7, cells := 0, slots := 0, locals := 160 } : Room) (cP (dC, dI) cy [.ref (ad 0)] (zzM ad cy iM aM) sz) (cQi (dC, dI) cy q.1 (zzM ad cy q.2.1 q.2.2) (va_A (zzM ad cy iM aM) sz)) 0 0 (va_A (zzM ad cy iM aM) sz) := by
  refine Met.ofW (cc := cX8_read) (maxL := 2) (ret := (some .int)) (by decide) rfl ?_
  intro p e s m args below meth c s₁ B hml hv
  obtain ⟨hav, hsz, hP, hK, hD0, hN⟩ := hv
  have hx := B.exec
  have hb := B.bytes
  have hr := B.returns
  have hts := atoms_spec (ws := wsX8_read) B.pre
  have hown : s.vm.findClass RX8 = some m.cls := findClass_of_methodNamed B.named
  have hlocks := B.notSynchronized
  subst hsz
  have hD := hD0.self (sz := s.heap.size)
  generalize hAe : va_A (zzM ad cy iM aM) s.heap.size = A at hD ⊢
  have hA : ∀ q : Nat, s.heap.size ≤ q → A q := fun q h => by rw [← hAe]; exact Or.inr h
  have hS : va_S A s.heap s.heap [] := va_S.rf
  generalize hWQ : (zzM ad cy q.2.1 q.2.2) = WQ
  generalize hQQ : MQ below (cQi (dC, dI) cy q.1 WQ A) args s 0 0 A = QQ
  have hl := lv_entry ([.ref (ad 0)] : List Value) (n := 2) (Nat.le_of_ble_eq_true rfl)
  have hfr := lg_entry_eq m ([.ref (ad 0)] : List Value) 2
  rw [← hav] at hfr
  rw [hfr]
  clear hfr hav
  generalize (lg_sl ([.ref (ad 0)] : List Value) ++ List.replicate (2 - (lg_sl ([.ref (ad 0)] : List Value)).length) Slot.unset).toArray = ls at hl ⊢
  have hl : lv_has ls 2 [(0, .ref (ad 0))] := hl
  have kf147 := hts _ (List.mem_cons_of_mem _ m_fl_X8_147)
  have ki8 := (fun w h => List.mem_cons_of_mem _ (i_X8 w h) : ∀ w ∈ u_ws RX8 TX8 78, w ∈ wsX8_read)
  have kf85 := hts _ (List.mem_cons_of_mem _ m_fl_X8_85)
  have kf332 := hts _ (List.mem_cons_of_mem _ m_fl_X8_332)
  have kf191 := hts _ (List.mem_cons_of_mem _ m_fl_X8_191)
  have kf188 := hts _ (List.mem_cons_of_mem _ m_fl_X8_188)
  have kf178 := hts _ (List.mem_cons_of_mem _ m_fl_X8_178)
  have kf166 := hts _ (List.mem_cons_of_mem _ m_fl_X8_166)
  have kf67 := hts _ (List.mem_cons_of_mem _ m_fl_X8_67)
  have kf211 := hts _ (List.mem_cons_of_mem _ m_fl_X8_211)
  have kf245 := hts _ (List.mem_cons_of_mem _ m_fl_X8_245)
  have kf295 := hts _ (List.mem_cons_of_mem _ m_fl_X8_295)
  have kf311 := hts _ (List.mem_cons_of_mem _ m_fl_X8_311)
  have kf305 := hts _ (List.mem_cons_of_mem _ m_fl_X8_305)
  have kf214 := hts _ (List.mem_cons_of_mem _ m_fl_X8_214)
  have kf221 := hts _ (List.mem_cons_of_mem _ m_fl_X8_221)
  have kf234 := hts _ (List.mem_cons_of_mem _ m_fl_X8_234)
  refine (?_ : ∀ (H : Heap) (locs : List Loc), va_P (dC, dI) vwCl (zzM ad cy iM aM) H → va_D A (zzM ad cy iM aM) → va_S A s.heap H locs → W p l e ({ frames := 7, cells := 0, slots := 0, locals := 160 } : Room) s m args below meth c H locs 0 0 QQ (F0 m 0 ls [])) s.heap [] hP hD hS
  clear hP hD hS
  have B134 : ∀ (x_iM : Nat → Int32) (x_aM : Nat → Nat → Int32) (k76 : (Nat → Int32) → (Nat → Nat → Int32) → Option (Int32 × (Nat → Int32) × (Nat → Nat → Int32))) (hk76 : ∀ (x_iM' : Nat → Int32) (x_aM' : Nat → Nat → Int32) (H : Heap) (locs : List Loc) (ls : Array Slot), k76 x_iM' x_aM' = some q → va_P (dC, dI) vwCl (zzM ad cy x_iM' x_aM') H → va_D A (zzM ad cy x_iM' x_aM') → va_S A s.heap H locs → lv_has ls 2 [(0, .ref (ad 0))] → W p l e ({ frames := 7, cells := 0, slots := 0, locals := 160 } : Room) s m args below meth c H locs 0 0 QQ (F0 m 76 ls [])) (H : Heap) (locs : List Loc) (ls : Array Slot), f_M_read_134 N iM aM k76 x_iM x_aM = some q → va_P (dC, dI) vwCl (zzM ad cy x_iM x_aM) H → va_D A (zzM ad cy x_iM x_aM) → va_S A s.heap H locs → lv_has ls 2 [(0, .ref (ad 0))] → W p l e ({ frames := 7, cells := 0, slots := 0, locals := 160 } : Room) s m args below meth c H locs 0 0 QQ (F0 m 134 ls []) := by
    intro x_iM x_aM k76 hk76 H locs ls h hP hD hS hl
    unfold f_M_read_134 at h
    refine lv_aload_n hx hb dX8_read_134 rfl (lv_at hl 0 rfl) ?_
    refine lv_bipush (v := 59) hx hb dX8_read_135 (by decide) ?_
    obtain ⟨q137, e137, h⟩ := g_b h
    refine callVvs (cc := cX8_read) (w1 := zzM ad cy (us x_iM [(2, q137.1), (3, q137.2.1), (4, q137.2.2.1), (5, q137.2.2.2.1), (6, q137.2.2.2.2.1), (46, q137.2.2.2.2.2.1), (47, q137.2.2.2.2.2.2)]) x_aM) (As := [.int ((59 : Int32))]) (rest := []) ⟨hx, hb, hml, hown, hts⟩ (c_M_take l dC dI cy ad H.size N ((59 : Int32)) x_iM x_aM q137 e137) (cwV 1 hts (goodV m_ml_X8_326 m_im_X8_take m_se_X8_take m_in_X8 m_cd_X8_take) rfl rfl rfl (by decide +kernel) ⟨Nat.le_of_ble_eq_true rfl, Nat.le_of_ble_eq_true rfl⟩) hN hK hP hD hS hA rfl 0 rfl rfl rfl hl.1 rfl (Nat.le_of_ble_eq_true rfl) dX8_read_137 ⟨Nat.zero_le _, Nat.zero_le _⟩ (fun H locs hP hD hS => ?_)
    refine lv_goto (tgt := 76) hx hb dX8_read_140 (by decide) ?_
    exact hk76 ((us x_iM [(2, q137.1), (3, q137.2.1), (4, q137.2.2.1), (5, q137.2.2.2.1), (6, q137.2.2.2.2.1), (46, q137.2.2.2.2.2.1), (47, q137.2.2.2.2.2.2)])) x_aM H locs ls h hP hD hS (lv_sub hl [0] rfl)
  have B143 : ∀ (x_iM : Nat → Int32) (x_aM : Nat → Nat → Int32) (H : Heap) (locs : List Loc) (ls : Array Slot), f_M_read_143 N iM aM x_iM x_aM = some q → va_P (dC, dI) vwCl (zzM ad cy x_iM x_aM) H → va_D A (zzM ad cy x_iM x_aM) → va_S A s.heap H locs → lv_has ls 2 [(0, .ref (ad 0))] → W p l e ({ frames := 7, cells := 0, slots := 0, locals := 160 } : Room) s m args below meth c H locs 0 0 QQ (F0 m 143 ls []) := by
    intro x_iM x_aM H locs ls h hP hD hS hl
    unfold f_M_read_143 at h
    refine lv_aload_n hx hb dX8_read_143 rfl (lv_at hl 0 rfl) ?_
    refine lv_iconst (v := 0) hx hb dX8_read_144 (by decide) ?_
    refine va_put (D := (dC, dI)) (ci := 8) (v := .int ((0 : Int32))) (ty := .int) (C := RX8) (T := TX8) (N := 78) hx hb hts ki8 tyX8 tyX8_ok nmX8 hown hK hP hD hS 0 rfl rfl 1 (by decide) kf147 (fun _ h9 => h9) rfl (by decide +kernel) rfl rfl (Nat.le_of_ble_eq_true rfl) dX8_read_145 (fun H locs hP hD hS => ?_)
    have hP : va_P (dC, dI) vwCl (zzM ad cy (us x_iM [(1, (0 : Int32))]) x_aM) H := Eq.mp (congrArg (fun w => va_P (dC, dI) vwCl w H) (sfM_iM1 ad cy x_iM x_aM ((0 : Int32)))) hP
    have hD : va_D A (zzM ad cy (us x_iM [(1, (0 : Int32))]) x_aM) := Eq.mp (congrArg (fun w => va_D A w) (sfM_iM1 ad cy x_iM x_aM ((0 : Int32)))) hD
    refine lv_aload_n hx hb dX8_read_148 rfl (lv_at hl 0 rfl) ?_
    obtain ⟨q149, e149, h⟩ := g_b h
    refine callVis (cc := cX8_read) (w1 := zzM ad cy (us x_iM [(1, (0 : Int32))]) x_aM) (As := []) (rest := []) ⟨hx, hb, hml, hown, hts⟩ (c_M_fine l dC dI cy ad H.size ((us x_iM [(1, (0 : Int32))])) x_aM q149 e149) (cwV 0 hts (goodV m_ml_X8_198 m_im_X8_fine m_se_X8_fine m_in_X8 m_cd_X8_fine) rfl rfl rfl (by decide +kernel) ⟨Nat.le_of_ble_eq_true rfl, Nat.le_of_ble_eq_true rfl⟩) hN hK hP hD hS hA rfl 0 rfl rfl rfl hl.1 rfl (Nat.le_of_ble_eq_true rfl) dX8_read_149 ⟨Nat.zero_le _, Nat.zero_le _⟩ (fun H locs hP hD hS => ?_)
    refine lv_if_ne (tgt := 169) hx hb dX8_read_152 (by decide) (fun cz => ?_) (fun cz => ?_)
    · have h := g_f h cz
      refine lv_aload_n hx hb dX8_read_169 rfl (lv_at hl 0 rfl) ?_
      refine lv_iconst (v := (-1)) hx hb dX8_read_170 (by decide) ?_
      refine va_put (D := (dC, dI)) (ci := 8) (v := .int ((-1 : Int32))) (ty := .int) (C := RX8) (T := TX8) (N := 78) hx hb hts ki8 tyX8 tyX8_ok nmX8 hown hK hP hD hS 0 rfl rfl 48 (by decide) kf85 (fun _ h9 => h9) rfl (by decide +kernel) rfl rfl (Nat.le_of_ble_eq_true rfl) dX8_read_171 (fun H locs hP hD hS => ?_)
      have hP : va_P (dC, dI) vwCl (zzM ad cy (us x_iM [(1, (0 : Int32)), (48, (-1 : Int32))]) x_aM) H := Eq.mp (congrArg (fun w => va_P (dC, dI) vwCl w H) (stM_iM48 ad cy x_iM x_aM [(1, (0 : Int32))] ((-1 : Int32)))) hP
      have hD : va_D A (zzM ad cy (us x_iM [(1, (0 : Int32)), (48, (-1 : Int32))]) x_aM) := Eq.mp (congrArg (fun w => va_D A w) (stM_iM48 ad cy x_iM x_aM [(1, (0 : Int32))] ((-1 : Int32)))) hD
      refine lv_aload_n hx hb dX8_read_174 rfl (lv_at hl 0 rfl) ?_
      obtain ⟨q175, e175, h⟩ := g_b h
      refine callVvs (cc := cX8_read) (w1 := zzM ad cy q175.1 q175.2) (As := []) (rest := []) ⟨hx, hb, hml, hown, hts⟩ (c_M_become l dC dI cy ad H.size N ((us x_iM [(1, (0 : Int32)), (48, (-1 : Int32))])) x_aM q175 e175) (cwV 0 hts (goodV m_ml_X8_329 m_im_X8_become m_se_X8_become m_in_X8 m_cd_X8_become) rfl rfl rfl (by decide +kernel) ⟨Nat.le_of_ble_eq_true rfl, Nat.le_of_ble_eq_true rfl⟩) hN hK hP hD hS hA rfl 0 rfl rfl rfl hl.1 rfl (Nat.le_of_ble_eq_true rfl) dX8_read_175 ⟨Nat.zero_le _, Nat.zero_le _⟩ (fun H locs hP hD hS => ?_)
      refine lv_aload_n hx hb dX8_read_178 rfl (lv_at hl 0 rfl) ?_
      refine va_get (D := (dC, dI)) (ci := 8) (v := .int ((q175.1 14))) (C := RX8) (T := TX8) (N := 78) hx hb hts ki8 hown hK hP 0 rfl rfl 14 (by decide) kf332 (fun _ h9 => h9) rfl dX8_read_179 ?_
      have h' := Option.some.inj h
      rw [← hQQ]
      exact W.iret (v := (q175.1 14)) hx hb hr (fun t ht hW => ⟨⟨(q175.1 14), (), rfl, by rw [← h'], by rw [← hWQ, ← h', ht]; exact hP, va_K.moved hW.alike hK⟩, hS.F ht⟩) hS.2.2 dX8_read_182
    · have h := g_t h cz
      refine lv_aload_n hx hb dX8_read_155 rfl (lv_at hl 0 rfl) ?_
      refine lv_aload_n hx hb dX8_read_156 rfl (lv_at hl 0 rfl) ?_
      refine va_get (D := (dC, dI)) (ci := 8) (v := .int ((x_iM 47))) (C := RX8) (T := TX8) (N := 78) hx hb hts ki8 hown hK hP 0 rfl rfl 47 (by decide) kf191 (fun _ h9 => h9) rfl dX8_read_157 ?_
      refine va_put (D := (dC, dI)) (ci := 8) (v := .int ((x_iM 47))) (ty := .int) (C := RX8) (T := TX8) (N := 78) hx hb hts ki8 tyX8 tyX8_ok nmX8 hown hK hP hD hS 0 rfl rfl 48 (by decide) kf85 (fun _ h9 => h9) rfl (by decide +kernel) rfl rfl (Nat.le_of_ble_eq_true rfl) dX8_read_160 (fun H locs hP hD hS => ?_)
      have hP : va_P (dC, dI) vwCl (zzM ad cy (us x_iM [(1, (0 : Int32)), (48, (x_iM 47))]) x_aM) H := Eq.mp (congrArg (fun w => va_P (dC, dI) vwCl w H) (stM_iM48 ad cy x_iM x_aM [(1, (0 : Int32))] ((x_iM 47)))) hP
      have hD : va_D A (zzM ad cy (us x_iM [(1, (0 : Int32)), (48, (x_iM 47))]) x_aM) := Eq.mp (congrArg (fun w => va_D A w) (stM_iM48 ad cy x_iM x_aM [(1, (0 : Int32))] ((x_iM 47)))) hD
      refine lv_aload_n hx hb dX8_read_163 rfl (lv_at hl 0 rfl) ?_
      refine va_get (D := (dC, dI)) (ci := 8) (v := .int ((x_iM 46))) (C := RX8) (T := TX8) (N := 78) hx hb hts ki8 hown hK hP 0 rfl rfl 46 (by decide) kf188 (fun _ h9 => h9) rfl dX8_read_164 ?_
      refine lv_ineg hx hb dX8_read_167 ?_
      have h' := Option.some.inj h
      rw [← hQQ]
      exact W.iret (v := (-(x_iM 46))) hx hb hr (fun t ht hW => ⟨⟨(-(x_iM 46)), (), rfl, by rw [← h'], by rw [← hWQ, ← h', ht]; exact hP, va_K.moved hW.alike hK⟩, hS.F ht⟩) hS.2.2 dX8_read_168
  have B76 : ∀ (n : Nat) (x_iM : Nat → Int32) (x_aM : Nat → Nat → Int32) (H : Heap) (locs : List Loc) (ls : Array Slot), f_M_read_76 N iM aM n x_iM x_aM = some q → va_P (dC, dI) vwCl (zzM ad cy x_iM x_aM) H → va_D A (zzM ad cy x_iM x_aM) → va_S A s.heap H locs → lv_has ls 2 [(0, .ref (ad 0))] → W p l e ({ frames := 7, cells := 0, slots := 0, locals := 160 } : Room) s m args below meth c H locs 0 0 QQ (F0 m 76 ls []) := by
    intro n
    induction n with
    | zero =>
      intro x_iM x_aM H locs ls h hP hD hS hl
      rw [f_M_read_76] at h
      cases h
    | succ n ih =>
      intro x_iM x_aM H locs ls h hP hD hS hl
      rw [f_M_read_76] at h
      refine lv_aload_n hx hb dX8_read_76 rfl (lv_at hl 0 rfl) ?_
      obtain ⟨q77, e77, h⟩ := g_b h
      refine callVis (cc := cX8_read) (w1 := zzM ad cy x_iM x_aM) (As := []) (rest := []) ⟨hx, hb, hml, hown, hts⟩ (c_M_fine l dC dI cy ad H.size x_iM x_aM q77 e77) (cwV 0 hts (goodV m_ml_X8_198 m_im_X8_fine m_se_X8_fine m_in_X8 m_cd_X8_fine) rfl rfl rfl (by decide +kernel) ⟨Nat.le_of_ble_eq_true rfl, Nat.le_of_ble_eq_true rfl⟩) hN hK hP hD hS hA rfl 0 rfl rfl rfl hl.1 rfl (Nat.le_of_ble_eq_true rfl) dX8_read_77 ⟨Nat.zero_le _, Nat.zero_le _⟩ (fun H locs hP hD hS => ?_)
      refine lv_if_eq (tgt := 143) hx hb dX8_read_80 (by decide) (fun cz => ?_) (fun cz => ?_)
      · have h := g_t h cz
        exact B143 x_iM x_aM H locs ls h hP hD hS (lv_sub hl [0] rfl)
      · have h := g_f h cz
        refine lv_aload_n hx hb dX8_read_83 rfl (lv_at hl 0 rfl) ?_
        refine va_get (D := (dC, dI)) (ci := 8) (v := .int ((x_iM 3))) (C := RX8) (T := TX8) (N := 78) hx hb hts ki8 hown hK hP 0 rfl rfl 3 (by decide) kf178 (fun _ h9 => h9) rfl dX8_read_84 ?_
        refine lv_if_eq (tgt := 143) hx hb dX8_read_87 (by decide) (fun cz => ?_) (fun cz => ?_)
        · have h := g_t h cz
          exact B143 x_iM x_aM H locs ls h hP hD hS (lv_sub hl [0] rfl)
        · have h := g_f h cz
          refine lv_aload_n hx hb dX8_read_90 rfl (lv_at hl 0 rfl) ?_
          obtain ⟨q91, e91, h⟩ := g_b h
          refine callVis (cc := cX8_read) (w1 := zzM ad cy x_iM x_aM) (As := []) (rest := []) ⟨hx, hb, hml, hown, hts⟩ (c_M_kept l dC dI cy ad H.size N x_iM x_aM q91 e91) (cwV 0 hts (goodV m_ml_X8_224 m_im_X8_kept m_se_X8_kept m_in_X8 m_cd_X8_kept) rfl rfl rfl (by decide +kernel) ⟨Nat.le_of_ble_eq_true rfl, Nat.le_of_ble_eq_true rfl⟩) hN hK hP hD hS hA rfl 0 rfl rfl rfl hl.1 rfl (Nat.le_of_ble_eq_true rfl) dX8_read_91 ⟨Nat.zero_le _, Nat.zero_le _⟩ (fun H locs hP hD hS => ?_)
          refine lv_istore_n (lv' := [(1, .int q91), (0, .ref (ad 0))]) hx hb dX8_read_94 rfl hl (by decide) rfl (fun ls hl => ?_)
          refine lv_iload_n hx hb dX8_read_95 rfl (lv_at hl 0 rfl) ?_
          refine lv_if_ne (tgt := 106) hx hb dX8_read_96 (by decide) (fun cz => ?_) (fun cz => ?_)
          · have h := g_f h cz
            refine lv_iload_n hx hb dX8_read_106 rfl (lv_at hl 0 rfl) ?_
            refine lv_iconst (v := 1) hx hb dX8_read_107 (by decide) ?_
            refine lv_icmp_ne (tgt := 118) hx hb dX8_read_108 (by decide) (fun cz => ?_) (fun cz => ?_)
            · have h := g_f h cz
              refine lv_iload_n hx hb dX8_read_118 rfl (lv_at hl 0 rfl) ?_
              refine lv_iconst (v := 2) hx hb dX8_read_119 (by decide) ?_
              refine lv_icmp_ne (tgt := 130) hx hb dX8_read_120 (by decide) (fun cz => ?_) (fun cz => ?_)
              · have h := g_f h cz
                refine lv_aload_n hx hb dX8_read_130 rfl (lv_at hl 1 rfl) ?_
                obtain ⟨q131, e131, h⟩ := g_b h
                refine callVvs (cc := cX8_read) (w1 := zzM ad cy q131.1 q131.2) (As := []) (rest := []) ⟨hx, hb, hml, hown, hts⟩ (c_M_readRule l dC dI cy ad H.size N x_iM x_aM q131 e131) (cwV 0 hts (goodV m_ml_X8_323 m_im_X8_readRule m_se_X8_readRule m_in_X8 m_cd_X8_readRule) rfl rfl rfl (by decide +kernel) ⟨Nat.le_of_ble_eq_true rfl, Nat.le_of_ble_eq_true rfl⟩) hN hK hP hD hS hA rfl 0 rfl rfl rfl hl.1 rfl (Nat.le_of_ble_eq_true rfl) dX8_read_131 ⟨Nat.zero_le _, Nat.zero_le _⟩ (fun H locs hP hD hS => ?_)
                exact B134 q131.1 q131.2 (f_M_read_76 N iM aM n) ih H locs ls h hP hD hS (lv_sub hl [1] rfl)
              · have h := g_t h cz
                refine lv_aload_n hx hb dX8_read_123 rfl (lv_at hl 1 rfl) ?_
                obtain ⟨q124, e124, h⟩ := g_b h
                refine callVvs (cc := cX8_read) (w1 := zzM ad cy q124.1 q124.2) (As := []) (rest := []) ⟨hx, hb, hml, hown, hts⟩ (c_M_readSingle l dC dI cy ad H.size N x_iM x_aM q124 e124) (cwV 0 hts (goodV m_ml_X8_320 m_im_X8_readSingle m_se_X8_readSingle m_in_X8 m_cd_X8_readSingle) rfl rfl rfl (by decide +kernel) ⟨Nat.le_of_ble_eq_true rfl, Nat.le_of_ble_eq_true rfl⟩) hN hK hP hD hS hA rfl 0 rfl rfl rfl hl.1 rfl (Nat.le_of_ble_eq_true rfl) dX8_read_124 ⟨Nat.zero_le _, Nat.zero_le _⟩ (fun H locs hP hD hS => ?_)
                refine lv_goto (tgt := 134) hx hb dX8_read_127 (by decide) ?_
                exact B134 q124.1 q124.2 (f_M_read_76 N iM aM n) ih H locs ls h hP hD hS (lv_sub hl [1] rfl)
            · have h := g_t h cz
              refine lv_aload_n hx hb dX8_read_111 rfl (lv_at hl 1 rfl) ?_
              obtain ⟨q112, e112, h⟩ := g_b h
              refine callVvs (cc := cX8_read) (w1 := zzM ad cy q112.1 q112.2) (As := []) (rest := []) ⟨hx, hb, hml, hown, hts⟩ (c_M_readUnder l dC dI cy ad H.size N x_iM x_aM q112 e112) (cwV 0 hts (goodV m_ml_X8_317 m_im_X8_readUnder m_se_X8_readUnder m_in_X8 m_cd_X8_readUnder) rfl rfl rfl (by decide +kernel) ⟨Nat.le_of_ble_eq_true rfl, Nat.le_of_ble_eq_true rfl⟩) hN hK hP hD hS hA rfl 0 rfl rfl rfl hl.1 rfl (Nat.le_of_ble_eq_true rfl) dX8_read_112 ⟨Nat.zero_le _, Nat.zero_le _⟩ (fun H locs hP hD hS => ?_)
              refine lv_goto (tgt := 134) hx hb dX8_read_115 (by decide) ?_
              exact B134 q112.1 q112.2 (f_M_read_76 N iM aM n) ih H locs ls h hP hD hS (lv_sub hl [1] rfl)
          · have h := g_t h cz
            refine lv_aload_n hx hb dX8_read_99 rfl (lv_at hl 1 rfl) ?_
            obtain ⟨q100, e100, h⟩ := g_b h
            refine callVvs (cc := cX8_read) (w1 := zzM ad cy q100.1 q100.2) (As := []) (rest := []) ⟨hx, hb, hml, hown, hts⟩ (c_M_readAsk l dC dI cy ad H.size N x_iM x_aM q100 e100) (cwV 0 hts (goodV m_ml_X8_314 m_im_X8_readAsk m_se_X8_readAsk m_in_X8 m_cd_X8_readAsk) rfl rfl rfl (by decide +kernel) ⟨Nat.le_of_ble_eq_true rfl, Nat.le_of_ble_eq_true rfl⟩) hN hK hP hD hS hA rfl 0 rfl rfl rfl hl.1 rfl (Nat.le_of_ble_eq_true rfl) dX8_read_100 ⟨Nat.zero_le _, Nat.zero_le _⟩ (fun H locs hP hD hS => ?_)
            refine lv_goto (tgt := 134) hx hb dX8_read_103 (by decide) ?_
            exact B134 q100.1 q100.2 (f_M_read_76 N iM aM n) ih H locs ls h hP hD hS (lv_sub hl [1] rfl)
  have B48 : ∀ (n : Nat) (x_iM : Nat → Int32) (v1 : Int32) (x_aM : Nat → Nat → Int32) (H : Heap) (locs : List Loc) (ls : Array Slot), f_M_read_48 N iM aM x_iM n v1 x_aM = some q → va_P (dC, dI) vwCl (zzM ad cy x_iM x_aM) H → va_D A (zzM ad cy x_iM x_aM) → va_S A s.heap H locs → lv_has ls 2 [(0, .ref (ad 0)), (1, .int v1)] → W p l e ({ frames := 7, cells := 0, slots := 0, locals := 160 } : Room) s m args below meth c H locs 0 0 QQ (F0 m 48 ls []) := by
    intro n
    induction n with
    | zero =>
      intro x_iM v1 x_aM H locs ls h hP hD hS hl
      rw [f_M_read_48] at h
      cases h
    | succ n ih =>
      intro x_iM v1 x_aM H locs ls h hP hD hS hl
      rw [f_M_read_48] at h
      refine lv_iload_n hx hb dX8_read_48 rfl (lv_at hl 1 rfl) ?_
      refine lv_bipush (v := 18) hx hb dX8_read_49 (by decide) ?_
      refine lv_icmp_ge (tgt := 67) hx hb dX8_read_51 (by decide) (fun cz => ?_) (fun cz => ?_)
      · have h := g_t h cz
        refine lv_aload_n hx hb dX8_read_67 rfl (lv_at hl 0 rfl) ?_
        refine lv_iconst (v := 0) hx hb dX8_read_68 (by decide) ?_
        refine va_put (D := (dC, dI)) (ci := 8) (v := .int ((0 : Int32))) (ty := .int) (C := RX8) (T := TX8) (N := 78) hx hb hts ki8 tyX8 tyX8_ok nmX8 hown hK hP hD hS 0 rfl rfl 2 (by decide) kf166 (fun _ h9 => h9) rfl (by decide +kernel) rfl rfl (Nat.le_of_ble_eq_true rfl) dX8_read_69 (fun H locs hP hD hS => ?_)
        have hP : va_P (dC, dI) vwCl (zzM ad cy (us x_iM [(2, (0 : Int32))]) x_aM) H := Eq.mp (congrArg (fun w => va_P (dC, dI) vwCl w H) (sfM_iM2 ad cy x_iM x_aM ((0 : Int32)))) hP
        have hD : va_D A (zzM ad cy (us x_iM [(2, (0 : Int32))]) x_aM) := Eq.mp (congrArg (fun w => va_D A w) (sfM_iM2 ad cy x_iM x_aM ((0 : Int32)))) hD
        refine lv_aload_n hx hb dX8_read_72 rfl (lv_at hl 0 rfl) ?_
        obtain ⟨q73, e73, h⟩ := g_b h
        refine callVvs (cc := cX8_read) (w1 := zzM ad cy (us x_iM [(2, q73.1), (3, q73.2.1), (4, q73.2.2.1), (5, q73.2.2.2.1), (6, q73.2.2.2.2)]) x_aM) (As := []) (rest := []) ⟨hx, hb, hml, hown, hts⟩ (c_M_next l dC dI cy ad H.size N ((us x_iM [(2, (0 : Int32))])) x_aM q73 e73) (cwV 0 hts (goodV m_ml_X8_205 m_im_X8_next m_se_X8_next m_in_X8 m_cd_X8_next) rfl rfl rfl (by decide +kernel) ⟨Nat.le_of_ble_eq_true rfl, Nat.le_of_ble_eq_true rfl⟩) hN hK hP hD hS hA rfl 0 rfl rfl rfl hl.1 rfl (Nat.le_of_ble_eq_true rfl) dX8_read_73 ⟨Nat.zero_le _, Nat.zero_le _⟩ (fun H locs hP hD hS => ?_)
        exact B76 N ((us x_iM [(2, q73.1), (3, q73.2.1), (4, q73.2.2.1), (5, q73.2.2.2.1), (6, q73.2.2.2.2)])) x_aM H locs ls h hP hD hS (lv_sub hl [0] rfl)
      · have h := g_f h cz
        refine lv_aload_n hx hb dX8_read_54 rfl (lv_at hl 0 rfl) ?_
        refine va_get (D := (dC, dI)) (ci := 8) (v := .ref (ad 19)) (C := RX8) (T := TX8) (N := 78) hx hb hts ki8 hown hK hP 0 rfl rfl 30 (by decide) kf67 (fun _ h9 => h9) rfl dX8_read_55 ?_
        refine lv_iload_n hx hb dX8_read_58 rfl (lv_at hl 1 rfl) ?_
        refine lv_iconst (v := 0) hx hb dX8_read_59 (by decide) ?_
        obtain ⟨g_117, h⟩ := g_n h
        refine va_zast (f := (x_aM 30)) hx hb hK hP hD hS 19 4 rfl rfl g_117 dX8_read_60 (fun H locs hP hD hS => ?_)
        have hP : va_P (dC, dI) vwCl (zzM ad cy x_iM (us x_aM [(30, (upd ((x_aM 30)) v1.toNatClampNeg (vp_nar .boolean ((0 : Int32)))))])) H := Eq.mp (congrArg (fun w => va_P (dC, dI) vwCl w H) (sfM_aM30 ad cy x_iM x_aM ((upd ((x_aM 30)) v1.toNatClampNeg (vp_nar .boolean ((0 : Int32))))))) hP
        have hD : va_D A (zzM ad cy x_iM (us x_aM [(30, (upd ((x_aM 30)) v1.toNatClampNeg (vp_nar .boolean ((0 : Int32)))))])) := Eq.mp (congrArg (fun w => va_D A w) (sfM_aM30 ad cy x_iM x_aM ((upd ((x_aM 30)) v1.toNatClampNeg (vp_nar .boolean ((0 : Int32))))))) hD
        refine lv_iinc (v := (v1 + (1 : Int32))) (lv' := [(1, .int ((v1 + (1 : Int32)))), (0, .ref (ad 0))]) hx hb dX8_read_61 hl (k := 1) rfl rfl (by decide) rfl (fun ls hl => ?_)
        refine lv_goto (tgt := 48) hx hb dX8_read_64 (by decide) ?_
        exact ih x_iM ((v1 + (1 : Int32))) ((us x_aM [(30, (upd ((x_aM 30)) v1.toNatClampNeg (vp_nar .boolean ((0 : Int32)))))])) H locs ls h hP hD hS (lv_sub hl [1, 0] rfl)
  intro H locs hP hD hS
  unfold f_M_read at h
  refine lv_aload_n hx hb dX8_read_0 rfl (lv_at hl 0 rfl) ?_
  refine lv_iconst (v := 0) hx hb dX8_read_1 (by decide) ?_
  refine va_put (D := (dC, dI)) (ci := 8) (v := .int ((0 : Int32))) (ty := .int) (C := RX8) (T := TX8) (N := 78) hx hb hts ki8 tyX8 tyX8_ok nmX8 hown hK hP hD hS 0 rfl rfl 46 (by decide) kf188 (fun _ h9 => h9) rfl (by decide +kernel) rfl rfl (Nat.le_of_ble_eq_true rfl) dX8_read_2 (fun H locs hP hD hS => ?_)
  have hP : va_P (dC, dI) vwCl (zzM ad cy (us iM [(46, (0 : Int32))]) aM) H := Eq.mp (congrArg (fun w => va_P (dC, dI) vwCl w H) (sfM_iM46 ad cy iM aM ((0 : Int32)))) hP
  have hD : va_D A (zzM ad cy (us iM [(46, (0 : Int32))]) aM) := Eq.mp (congrArg (fun w => va_D A w) (sfM_iM46 ad cy iM aM ((0 : Int32)))) hD
  refine lv_aload_n hx hb dX8_read_5 rfl (lv_at hl 0 rfl) ?_
  refine lv_iconst (v := 0) hx hb dX8_read_6 (by decide) ?_
  refine va_put (D := (dC, dI)) (ci := 8) (v := .int ((0 : Int32))) (ty := .int) (C := RX8) (T := TX8) (N := 78) hx hb hts ki8 tyX8 tyX8_ok nmX8 hown hK hP hD hS 0 rfl rfl 38 (by decide) kf211 (fun _ h9 => h9) rfl (by decide +kernel) rfl rfl (Nat.le_of_ble_eq_true rfl) dX8_read_7 (fun H locs hP hD hS => ?_)
  have hP : va_P (dC, dI) vwCl (zzM ad cy (us iM [(38, (0 : Int32)), (46, (0 : Int32))]) aM) H := Eq.mp (congrArg (fun w => va_P (dC, dI) vwCl w H) (stM_iM38 ad cy iM aM [(46, (0 : Int32))] ((0 : Int32)))) hP
  have hD : va_D A (zzM ad cy (us iM [(38, (0 : Int32)), (46, (0 : Int32))]) aM) := Eq.mp (congrArg (fun w => va_D A w) (stM_iM38 ad cy iM aM [(46, (0 : Int32))] ((0 : Int32)))) hD
  refine lv_aload_n hx hb dX8_read_10 rfl (lv_at hl 0 rfl) ?_
  refine lv_iconst (v := 0) hx hb dX8_read_11 (by decide) ?_
  refine va_put (D := (dC, dI)) (ci := 8) (v := .int ((0 : Int32))) (ty := .int) (C := RX8) (T := TX8) (N := 78) hx hb hts ki8 tyX8 tyX8_ok nmX8 hown hK hP hD hS 0 rfl rfl 39 (by decide) kf245 (fun _ h9 => h9) rfl (by decide +kernel) rfl rfl (Nat.le_of_ble_eq_true rfl) dX8_read_12 (fun H locs hP hD hS => ?_)
  have hP : va_P (dC, dI) vwCl (zzM ad cy (us iM [(38, (0 : Int32)), (39, (0 : Int32)), (46, (0 : Int32))]) aM) H := Eq.mp (congrArg (fun w => va_P (dC, dI) vwCl w H) (stM_iM39 ad cy iM aM [(38, (0 : Int32)), (46, (0 : Int32))] ((0 : Int32)))) hP
  have hD : va_D A (zzM ad cy (us iM [(38, (0 : Int32)), (39, (0 : Int32)), (46, (0 : Int32))]) aM) := Eq.mp (congrArg (fun w => va_D A w) (stM_iM39 ad cy iM aM [(38, (0 : Int32)), (46, (0 : Int32))] ((0 : Int32)))) hD
  refine lv_aload_n hx hb dX8_read_15 rfl (lv_at hl 0 rfl) ?_
  refine lv_iconst (v := 0) hx hb dX8_read_16 (by decide) ?_
  refine va_put (D := (dC, dI)) (ci := 8) (v := .int ((0 : Int32))) (ty := .int) (C := RX8) (T := TX8) (N := 78) hx hb hts ki8 tyX8 tyX8_ok nmX8 hown hK hP hD hS 0 rfl rfl 40 (by decide) kf295 (fun _ h9 => h9) rfl (by decide +kernel) rfl rfl (Nat.le_of_ble_eq_true rfl) dX8_read_17 (fun H locs hP hD hS => ?_)
  have hP : va_P (dC, dI) vwCl (zzM ad cy (us iM [(38, (0 : Int32)), (39, (0 : Int32)), (40, (0 : Int32)), (46, (0 : Int32))]) aM) H := Eq.mp (congrArg (fun w => va_P (dC, dI) vwCl w H) (stM_iM40 ad cy iM aM [(38, (0 : Int32)), (39, (0 : Int32)), (46, (0 : Int32))] ((0 : Int32)))) hP
  have hD : va_D A (zzM ad cy (us iM [(38, (0 : Int32)), (39, (0 : Int32)), (40, (0 : Int32)), (46, (0 : Int32))]) aM) := Eq.mp (congrArg (fun w => va_D A w) (stM_iM40 ad cy iM aM [(38, (0 : Int32)), (39, (0 : Int32)), (46, (0 : Int32))] ((0 : Int32)))) hD
  refine lv_aload_n hx hb dX8_read_20 rfl (lv_at hl 0 rfl) ?_
  refine lv_iconst (v := 0) hx hb dX8_read_21 (by decide) ?_
  refine va_put (D := (dC, dI)) (ci := 8) (v := .int ((0 : Int32))) (ty := .int) (C := RX8) (T := TX8) (N := 78) hx hb hts ki8 tyX8 tyX8_ok nmX8 hown hK hP hD hS 0 rfl rfl 41 (by decide) kf311 (fun _ h9 => h9) rfl (by decide +kernel) rfl rfl (Nat.le_of_ble_eq_true rfl) dX8_read_22 (fun H locs hP hD hS => ?_)
  have hP : va_P (dC, dI) vwCl (zzM ad cy (us iM [(38, (0 : Int32)), (39, (0 : Int32)), (40, (0 : Int32)), (41, (0 : Int32)), (46, (0 : Int32))]) aM) H := Eq.mp (congrArg (fun w => va_P (dC, dI) vwCl w H) (stM_iM41 ad cy iM aM [(38, (0 : Int32)), (39, (0 : Int32)), (40, (0 : Int32)), (46, (0 : Int32))] ((0 : Int32)))) hP
  have hD : va_D A (zzM ad cy (us iM [(38, (0 : Int32)), (39, (0 : Int32)), (40, (0 : Int32)), (41, (0 : Int32)), (46, (0 : Int32))]) aM) := Eq.mp (congrArg (fun w => va_D A w) (stM_iM41 ad cy iM aM [(38, (0 : Int32)), (39, (0 : Int32)), (40, (0 : Int32)), (46, (0 : Int32))] ((0 : Int32)))) hD
  refine lv_aload_n hx hb dX8_read_25 rfl (lv_at hl 0 rfl) ?_
  refine lv_iconst (v := 0) hx hb dX8_read_26 (by decide) ?_
  refine va_put (D := (dC, dI)) (ci := 8) (v := .int ((0 : Int32))) (ty := .int) (C := RX8) (T := TX8) (N := 78) hx hb hts ki8 tyX8 tyX8_ok nmX8 hown hK hP hD hS 0 rfl rfl 42 (by decide) kf305 (fun _ h9 => h9) rfl (by decide +kernel) rfl rfl (Nat.le_of_ble_eq_true rfl) dX8_read_27 (fun H locs hP hD hS => ?_)
  have hP : va_P (dC, dI) vwCl (zzM ad cy (us iM [(38, (0 : Int32)), (39, (0 : Int32)), (40, (0 : Int32)), (41, (0 : Int32)), (42, (0 : Int32)), (46, (0 : Int32))]) aM) H := Eq.mp (congrArg (fun w => va_P (dC, dI) vwCl w H) (stM_iM42 ad cy iM aM [(38, (0 : Int32)), (39, (0 : Int32)), (40, (0 : Int32)), (41, (0 : Int32)), (46, (0 : Int32))] ((0 : Int32)))) hP
  have hD : va_D A (zzM ad cy (us iM [(38, (0 : Int32)), (39, (0 : Int32)), (40, (0 : Int32)), (41, (0 : Int32)), (42, (0 : Int32)), (46, (0 : Int32))]) aM) := Eq.mp (congrArg (fun w => va_D A w) (stM_iM42 ad cy iM aM [(38, (0 : Int32)), (39, (0 : Int32)), (40, (0 : Int32)), (41, (0 : Int32)), (46, (0 : Int32))] ((0 : Int32)))) hD
  refine lv_aload_n hx hb dX8_read_30 rfl (lv_at hl 0 rfl) ?_
  refine lv_iconst (v := 0) hx hb dX8_read_31 (by decide) ?_
  refine va_put (D := (dC, dI)) (ci := 8) (v := .int ((0 : Int32))) (ty := .int) (C := RX8) (T := TX8) (N := 78) hx hb hts ki8 tyX8 tyX8_ok nmX8 hown hK hP hD hS 0 rfl rfl 43 (by decide) kf214 (fun _ h9 => h9) rfl (by decide +kernel) rfl rfl (Nat.le_of_ble_eq_true rfl) dX8_read_32 (fun H locs hP hD hS => ?_)
  have hP : va_P (dC, dI) vwCl (zzM ad cy (us iM [(38, (0 : Int32)), (39, (0 : Int32)), (40, (0 : Int32)), (41, (0 : Int32)), (42, (0 : Int32)), (43, (0 : Int32)), (46, (0 : Int32))]) aM) H := Eq.mp (congrArg (fun w => va_P (dC, dI) vwCl w H) (stM_iM43 ad cy iM aM [(38, (0 : Int32)), (39, (0 : Int32)), (40, (0 : Int32)), (41, (0 : Int32)), (42, (0 : Int32)), (46, (0 : Int32))] ((0 : Int32)))) hP
  have hD : va_D A (zzM ad cy (us iM [(38, (0 : Int32)), (39, (0 : Int32)), (40, (0 : Int32)), (41, (0 : Int32)), (42, (0 : Int32)), (43, (0 : Int32)), (46, (0 : Int32))]) aM) := Eq.mp (congrArg (fun w => va_D A w) (stM_iM43 ad cy iM aM [(38, (0 : Int32)), (39, (0 : Int32)), (40, (0 : Int32)), (41, (0 : Int32)), (42, (0 : Int32)), (46, (0 : Int32))] ((0 : Int32)))) hD
  refine lv_aload_n hx hb dX8_read_35 rfl (lv_at hl 0 rfl) ?_
  refine lv_iconst (v := 0) hx hb dX8_read_36 (by decide) ?_
  refine va_put (D := (dC, dI)) (ci := 8) (v := .int ((0 : Int32))) (ty := .int) (C := RX8) (T := TX8) (N := 78) hx hb hts ki8 tyX8 tyX8_ok nmX8 hown hK hP hD hS 0 rfl rfl 44 (by decide) kf221 (fun _ h9 => h9) rfl (by decide +kernel) rfl rfl (Nat.le_of_ble_eq_true rfl) dX8_read_37 (fun H locs hP hD hS => ?_)
  have hP : va_P (dC, dI) vwCl (zzM ad cy (us iM [(38, (0 : Int32)), (39, (0 : Int32)), (40, (0 : Int32)), (41, (0 : Int32)), (42, (0 : Int32)), (43, (0 : Int32)), (44, (0 : Int32)), (46, (0 : Int32))]) aM) H := Eq.mp (congrArg (fun w => va_P (dC, dI) vwCl w H) (stM_iM44 ad cy iM aM [(38, (0 : Int32)), (39, (0 : Int32)), (40, (0 : Int32)), (41, (0 : Int32)), (42, (0 : Int32)), (43, (0 : Int32)), (46, (0 : Int32))] ((0 : Int32)))) hP
  have hD : va_D A (zzM ad cy (us iM [(38, (0 : Int32)), (39, (0 : Int32)), (40, (0 : Int32)), (41, (0 : Int32)), (42, (0 : Int32)), (43, (0 : Int32)), (44, (0 : Int32)), (46, (0 : Int32))]) aM) := Eq.mp (congrArg (fun w => va_D A w) (stM_iM44 ad cy iM aM [(38, (0 : Int32)), (39, (0 : Int32)), (40, (0 : Int32)), (41, (0 : Int32)), (42, (0 : Int32)), (43, (0 : Int32)), (46, (0 : Int32))] ((0 : Int32)))) hD
  refine lv_aload_n hx hb dX8_read_40 rfl (lv_at hl 0 rfl) ?_
  refine lv_iconst (v := 0) hx hb dX8_read_41 (by decide) ?_
  refine va_put (D := (dC, dI)) (ci := 8) (v := .int ((0 : Int32))) (ty := .int) (C := RX8) (T := TX8) (N := 78) hx hb hts ki8 tyX8 tyX8_ok nmX8 hown hK hP hD hS 0 rfl rfl 45 (by decide) kf234 (fun _ h9 => h9) rfl (by decide +kernel) rfl rfl (Nat.le_of_ble_eq_true rfl) dX8_read_42 (fun H locs hP hD hS => ?_)
  have hP : va_P (dC, dI) vwCl (zzM ad cy (us iM [(38, (0 : Int32)), (39, (0 : Int32)), (40, (0 : Int32)), (41, (0 : Int32)), (42, (0 : Int32)), (43, (0 : Int32)), (44, (0 : Int32)), (45, (0 : Int32)), (46, (0 : Int32))]) aM) H := Eq.mp (congrArg (fun w => va_P (dC, dI) vwCl w H) (stM_iM45 ad cy iM aM [(38, (0 : Int32)), (39, (0 : Int32)), (40, (0 : Int32)), (41, (0 : Int32)), (42, (0 : Int32)), (43, (0 : Int32)), (44, (0 : Int32)), (46, (0 : Int32))] ((0 : Int32)))) hP
  have hD : va_D A (zzM ad cy (us iM [(38, (0 : Int32)), (39, (0 : Int32)), (40, (0 : Int32)), (41, (0 : Int32)), (42, (0 : Int32)), (43, (0 : Int32)), (44, (0 : Int32)), (45, (0 : Int32)), (46, (0 : Int32))]) aM) := Eq.mp (congrArg (fun w => va_D A w) (stM_iM45 ad cy iM aM [(38, (0 : Int32)), (39, (0 : Int32)), (40, (0 : Int32)), (41, (0 : Int32)), (42, (0 : Int32)), (43, (0 : Int32)), (44, (0 : Int32)), (46, (0 : Int32))] ((0 : Int32)))) hD
  refine lv_bipush (v := 9) hx hb dX8_read_45 (by decide) ?_
  refine lv_istore_n (lv' := [(1, .int ((9 : Int32))), (0, .ref (ad 0))]) hx hb dX8_read_47 rfl hl (by decide) rfl (fun ls hl => ?_)
  exact B48 N ((us iM [(38, (0 : Int32)), (39, (0 : Int32)), (40, (0 : Int32)), (41, (0 : Int32)), (42, (0 : Int32)), (43, (0 : Int32)), (44, (0 : Int32)), (45, (0 : Int32)), (46, (0 : Int32))])) ((9 : Int32)) aM H locs ls h hP hD hS (lv_sub hl [1, 0] rfl)
set_option maxHeartbeats 8000000 in
set_option maxRecDepth 100000 in
theorem c_M_place (l : Launch) (dC : Nat → ClassId) (dI : Nat → Nat → Nat) (cy : Nat → ClassId) (ad : Nat → Nat) (sz : Nat) (iM : Nat → Int32) (aM : Nat → Nat → Int32) (q : Int32) (h : f_M_place (iM 48) = some q) : Met l yX8_place wsX8_place ({ frames := 0, cells := 0, slots := 0, locals := 0 } : Room) (cP (dC, dI) cy [.ref (ad 0)] (zzM ad cy iM aM) sz) (cQi (dC, dI) cy q (zzM ad cy iM aM) (va_A (zzM ad cy iM aM) sz)) 0 0 (va_A (zzM ad cy iM aM) sz) := by
  refine Met.ofW (cc := cX8_place) (maxL := 1) (ret := (some .int)) (by decide) rfl ?_
  intro p e s m args below meth c s₁ B hml hv
  obtain ⟨hav, hsz, hP, hK, hD0, hN⟩ := hv
  have hx := B.exec
  have hb := B.bytes
  have hr := B.returns
  have hts := atoms_spec (ws := wsX8_place) B.pre
  have hown : s.vm.findClass RX8 = some m.cls := findClass_of_methodNamed B.named
  have hlocks := B.notSynchronized
  subst hsz
  have hD := hD0.self (sz := s.heap.size)
  generalize hAe : va_A (zzM ad cy iM aM) s.heap.size = A at hD ⊢
  have hA : ∀ q : Nat, s.heap.size ≤ q → A q := fun q h => by rw [← hAe]; exact Or.inr h
  have hS : va_S A s.heap s.heap [] := va_S.rf
  generalize hWQ : (zzM ad cy iM aM) = WQ
  generalize hQQ : MQ below (cQi (dC, dI) cy q WQ A) args s 0 0 A = QQ
  have hl := lv_entry ([.ref (ad 0)] : List Value) (n := 1) (Nat.le_of_ble_eq_true rfl)
  have hfr := lg_entry_eq m ([.ref (ad 0)] : List Value) 1
  rw [← hav] at hfr
  rw [hfr]
  clear hfr hav
  generalize (lg_sl ([.ref (ad 0)] : List Value) ++ List.replicate (1 - (lg_sl ([.ref (ad 0)] : List Value)).length) Slot.unset).toArray = ls at hl ⊢
  have hl : lv_has ls 1 [(0, .ref (ad 0))] := hl
  have kf85 := hts _ (List.mem_cons_of_mem _ m_fl_X8_85)
  have ki8 := (fun w h => List.mem_cons_of_mem _ (i_X8 w h) : ∀ w ∈ u_ws RX8 TX8 78, w ∈ wsX8_place)
  refine (?_ : ∀ (H : Heap) (locs : List Loc), va_P (dC, dI) vwCl (zzM ad cy iM aM) H → va_D A (zzM ad cy iM aM) → va_S A s.heap H locs → W p l e ({ frames := 0, cells := 0, slots := 0, locals := 0 } : Room) s m args below meth c H locs 0 0 QQ (F0 m 0 ls [])) s.heap [] hP hD hS
  clear hP hD hS
  intro H locs hP hD hS
  unfold f_M_place at h
  refine lv_aload_n hx hb dX8_place_0 rfl (lv_at hl 0 rfl) ?_
  refine va_get (D := (dC, dI)) (ci := 8) (v := .int (iM 48)) (C := RX8) (T := TX8) (N := 78) hx hb hts ki8 hown hK hP 0 rfl rfl 48 (by decide) kf85 (fun _ h9 => h9) rfl dX8_place_1 ?_
  have h' := Option.some.inj h
  rw [← hQQ]
  exact W.iret (v := (iM 48)) hx hb hr (fun t ht hW => ⟨⟨(iM 48), (), rfl, by rw [← h'], by rw [← hWQ, ht]; exact hP, va_K.moved hW.alike hK⟩, hS.F ht⟩) hS.2.2 dX8_place_4
set_option maxHeartbeats 8000000 in
set_option maxRecDepth 100000 in
theorem c_M_standing (l : Launch) (dC : Nat → ClassId) (dI : Nat → Nat → Nat) (cy : Nat → ClassId) (ad : Nat → Nat) (sz : Nat) (N : Nat) (iM : Nat → Int32) (aM : Nat → Nat → Int32) (q : Int32) (h : f_M_standing N (iM 36) (aM 62) = some q) : Met l yX8_standing wsX8_standing ({ frames := 1, cells := 0, slots := 0, locals := 20 } : Room) (cP (dC, dI) cy [.ref (ad 0)] (zzM ad cy iM aM) sz) (cQi (dC, dI) cy q (zzM ad cy iM aM) (va_A (zzM ad cy iM aM) sz)) 0 0 (va_A (zzM ad cy iM aM) sz) := by
  refine Met.ofW (cc := cX8_standing) (maxL := 3) (ret := (some .int)) (by decide) rfl ?_
  intro p e s m args below meth c s₁ B hml hv
  obtain ⟨hav, hsz, hP, hK, hD0, hN⟩ := hv
  have hx := B.exec
  have hb := B.bytes
  have hr := B.returns
  have hts := atoms_spec (ws := wsX8_standing) B.pre
  have hown : s.vm.findClass RX8 = some m.cls := findClass_of_methodNamed B.named
  have hlocks := B.notSynchronized
  subst hsz
  have hD := hD0.self (sz := s.heap.size)
  generalize hAe : va_A (zzM ad cy iM aM) s.heap.size = A at hD ⊢
  have hA : ∀ q : Nat, s.heap.size ≤ q → A q := fun q h => by rw [← hAe]; exact Or.inr h
  have hS : va_S A s.heap s.heap [] := va_S.rf
  generalize hWQ : (zzM ad cy iM aM) = WQ
  generalize hQQ : MQ below (cQi (dC, dI) cy q WQ A) args s 0 0 A = QQ
  have hl := lv_entry ([.ref (ad 0)] : List Value) (n := 3) (Nat.le_of_ble_eq_true rfl)
  have hfr := lg_entry_eq m ([.ref (ad 0)] : List Value) 3
  rw [← hav] at hfr
  rw [hfr]
  clear hfr hav
  generalize (lg_sl ([.ref (ad 0)] : List Value) ++ List.replicate (3 - (lg_sl ([.ref (ad 0)] : List Value)).length) Slot.unset).toArray = ls at hl ⊢
  have hl : lv_has ls 3 [(0, .ref (ad 0))] := hl
  have kf117 := hts _ (List.mem_cons_of_mem _ m_fl_X8_117)
  have ki8 := (fun w h => List.mem_cons_of_mem _ (i_X8 w h) : ∀ w ∈ u_ws RX8 TX8 78, w ∈ wsX8_standing)
  refine (?_ : ∀ (H : Heap) (locs : List Loc), va_P (dC, dI) vwCl (zzM ad cy iM aM) H → va_D A (zzM ad cy iM aM) → va_S A s.heap H locs → W p l e ({ frames := 1, cells := 0, slots := 0, locals := 20 } : Room) s m args below meth c H locs 0 0 QQ (F0 m 0 ls [])) s.heap [] hP hD hS
  clear hP hD hS
  have B4 : ∀ (n : Nat) (v1 : Int32) (v2 : Int32) (H : Heap) (locs : List Loc) (ls : Array Slot), f_M_standing_4 N (iM 36) (aM 62) n v1 v2 = some q → va_P (dC, dI) vwCl (zzM ad cy iM aM) H → va_D A (zzM ad cy iM aM) → va_S A s.heap H locs → lv_has ls 3 [(0, .ref (ad 0)), (1, .int v1), (2, .int v2)] → W p l e ({ frames := 1, cells := 0, slots := 0, locals := 20 } : Room) s m args below meth c H locs 0 0 QQ (F0 m 4 ls []) := by
    intro n
    induction n with
    | zero =>
      intro v1 v2 H locs ls h hP hD hS hl
      rw [f_M_standing_4] at h
      cases h
    | succ n ih =>
      intro v1 v2 H locs ls h hP hD hS hl
      rw [f_M_standing_4] at h
      refine lv_iload_n hx hb dX8_standing_4 rfl (lv_at hl 2 rfl) ?_
      refine lv_aload_n hx hb dX8_standing_5 rfl (lv_at hl 0 rfl) ?_
      obtain ⟨q6, e6, h⟩ := g_b h
      refine callVis (cc := cX8_standing) (w1 := zzM ad cy iM aM) (As := []) (rest := [.int v2]) ⟨hx, hb, hml, hown, hts⟩ (c_M_types l dC dI cy ad H.size iM aM q6 e6) (cwV 0 hts (goodV m_ml_X8_368 m_im_X8_types m_se_X8_types m_in_X8 m_cd_X8_types) rfl rfl rfl (by decide +kernel) ⟨Nat.le_of_ble_eq_true rfl, Nat.le_of_ble_eq_true rfl⟩) hN hK hP hD hS hA rfl 0 rfl rfl rfl hl.1 rfl (Nat.le_of_ble_eq_true rfl) dX8_standing_6 ⟨Nat.zero_le _, Nat.zero_le _⟩ (fun H locs hP hD hS => ?_)
      refine lv_icmp_ge (tgt := 35) hx hb dX8_standing_9 (by decide) (fun cz => ?_) (fun cz => ?_)
      · have h := g_t h cz
        refine lv_iload_n hx hb dX8_standing_35 rfl (lv_at hl 1 rfl) ?_
        have h' := Option.some.inj h
        rw [← hQQ]
        exact W.iret (v := v1) hx hb hr (fun t ht hW => ⟨⟨v1, (), rfl, by rw [← h'], by rw [← hWQ, ht]; exact hP, va_K.moved hW.alike hK⟩, hS.F ht⟩) hS.2.2 dX8_standing_36
      · have h := g_f h cz
        refine lv_iload_n hx hb dX8_standing_12 rfl (lv_at hl 1 rfl) ?_
        refine lv_aload_n hx hb dX8_standing_13 rfl (lv_at hl 0 rfl) ?_
        refine va_get (D := (dC, dI)) (ci := 8) (v := .ref (ad 34)) (C := RX8) (T := TX8) (N := 78) hx hb hts ki8 hown hK hP 0 rfl rfl 62 (by decide) kf117 (fun _ h9 => h9) rfl dX8_standing_14 ?_
        refine lv_iload_n hx hb dX8_standing_17 rfl (lv_at hl 2 rfl) ?_
        obtain ⟨g_129, h⟩ := g_n h
        refine va_zald (f := (aM 62)) hx hb hK hP 34 4 rfl rfl g_129 dX8_standing_18 ?_
        refine lv_if_eq (tgt := 26) hx hb dX8_standing_19 (by decide) (fun cz => ?_) (fun cz => ?_)
        · have h := g_t h cz
          refine lv_iconst (v := 0) hx hb dX8_standing_26 (by decide) ?_
          refine lv_iadd hx hb dX8_standing_27 ?_
          refine lv_istore_n (lv' := [(1, .int ((v1 + (0 : Int32)))), (0, .ref (ad 0)), (2, .int v2)]) hx hb dX8_standing_28 rfl hl (by decide) rfl (fun ls hl => ?_)
          refine lv_iinc (v := (v2 + (1 : Int32))) (lv' := [(2, .int ((v2 + (1 : Int32)))), (1, .int ((v1 + (0 : Int32)))), (0, .ref (ad 0))]) hx hb dX8_standing_29 hl (k := 2) rfl rfl (by decide) rfl (fun ls hl => ?_)
          refine lv_goto (tgt := 4) hx hb dX8_standing_32 (by decide) ?_
          exact ih ((v1 + (0 : Int32))) ((v2 + (1 : Int32))) H locs ls h hP hD hS (lv_sub hl [2, 1, 0] rfl)
        · have h := g_f h cz
          refine lv_iconst (v := 1) hx hb dX8_standing_22 (by decide) ?_
          refine lv_goto (tgt := 27) hx hb dX8_standing_23 (by decide) ?_
          refine lv_iadd hx hb dX8_standing_27 ?_
          refine lv_istore_n (lv' := [(1, .int ((v1 + (1 : Int32)))), (0, .ref (ad 0)), (2, .int v2)]) hx hb dX8_standing_28 rfl hl (by decide) rfl (fun ls hl => ?_)
          refine lv_iinc (v := (v2 + (1 : Int32))) (lv' := [(2, .int ((v2 + (1 : Int32)))), (1, .int ((v1 + (1 : Int32)))), (0, .ref (ad 0))]) hx hb dX8_standing_29 hl (k := 2) rfl rfl (by decide) rfl (fun ls hl => ?_)
          refine lv_goto (tgt := 4) hx hb dX8_standing_32 (by decide) ?_
          exact ih ((v1 + (1 : Int32))) ((v2 + (1 : Int32))) H locs ls h hP hD hS (lv_sub hl [2, 1, 0] rfl)
  intro H locs hP hD hS
  unfold f_M_standing at h
  refine lv_iconst (v := 0) hx hb dX8_standing_0 (by decide) ?_
  refine lv_istore_n (lv' := [(1, .int ((0 : Int32))), (0, .ref (ad 0))]) hx hb dX8_standing_1 rfl hl (by decide) rfl (fun ls hl => ?_)
  refine lv_iconst (v := 0) hx hb dX8_standing_2 (by decide) ?_
  refine lv_istore_n (lv' := [(2, .int ((0 : Int32))), (1, .int ((0 : Int32))), (0, .ref (ad 0))]) hx hb dX8_standing_3 rfl hl (by decide) rfl (fun ls hl => ?_)
  exact B4 N ((0 : Int32)) ((0 : Int32)) H locs ls h hP hD hS (lv_sub hl [2, 1, 0] rfl)
set_option maxHeartbeats 8000000 in
set_option maxRecDepth 100000 in
theorem c_M_count (l : Launch) (dC : Nat → ClassId) (dI : Nat → Nat → Nat) (cy : Nat → ClassId) (ad : Nat → Nat) (sz : Nat) (N : Nat) (a1 : Int32) (iM : Nat → Int32) (aM : Nat → Nat → Int32) (q : Int32) (h : f_M_count N a1 (iM 14) (iM 20) (iM 22) (iM 25) (iM 28) (iM 36) (iM 37) (iM 64) (iM 65) (iM 66) (iM 68) (iM 73) (aM 62) = some q) : Met l yX8_count wsX8_count ({ frames := 2, cells := 0, slots := 0, locals := 42 } : Room) (cP (dC, dI) cy [.ref (ad 0), .int a1] (zzM ad cy iM aM) sz) (cQi (dC, dI) cy q (zzM ad cy iM aM) (va_A (zzM ad cy iM aM) sz)) 0 0 (va_A (zzM ad cy iM aM) sz) := by
  refine Met.ofW (cc := cX8_count) (maxL := 2) (ret := (some .int)) (by decide) rfl ?_
  intro p e s m args below meth c s₁ B hml hv
  obtain ⟨hav, hsz, hP, hK, hD0, hN⟩ := hv
  have hx := B.exec
  have hb := B.bytes
  have hr := B.returns
  have hts := atoms_spec (ws := wsX8_count) B.pre
  have hown : s.vm.findClass RX8 = some m.cls := findClass_of_methodNamed B.named
  have hlocks := B.notSynchronized
  subst hsz
  have hD := hD0.self (sz := s.heap.size)
  generalize hAe : va_A (zzM ad cy iM aM) s.heap.size = A at hD ⊢
  have hA : ∀ q : Nat, s.heap.size ≤ q → A q := fun q h => by rw [← hAe]; exact Or.inr h
  have hS : va_S A s.heap s.heap [] := va_S.rf
  generalize hWQ : (zzM ad cy iM aM) = WQ
  generalize hQQ : MQ below (cQi (dC, dI) cy q WQ A) args s 0 0 A = QQ
  have hl := lv_entry ([.ref (ad 0), .int a1] : List Value) (n := 2) (Nat.le_of_ble_eq_true rfl)
  have hfr := lg_entry_eq m ([.ref (ad 0), .int a1] : List Value) 2
  rw [← hav] at hfr
  rw [hfr]
  clear hfr hav
  generalize (lg_sl ([.ref (ad 0), .int a1] : List Value) ++ List.replicate (2 - (lg_sl ([.ref (ad 0), .int a1] : List Value)).length) Slot.unset).toArray = ls at hl ⊢
  have hl : lv_has ls 2 [(0, .ref (ad 0)), (1, .int a1)] := hl
  have kf356 := hts _ (List.mem_cons_of_mem _ m_fl_X8_356)
  have ki8 := (fun w h => List.mem_cons_of_mem _ (i_X8 w h) : ∀ w ∈ u_ws RX8 TX8 78, w ∈ wsX8_count)
  have kf347 := hts _ (List.mem_cons_of_mem _ m_fl_X8_347)
  have kf350 := hts _ (List.mem_cons_of_mem _ m_fl_X8_350)
  have kf341 := hts _ (List.mem_cons_of_mem _ m_fl_X8_341)
  have kf344 := hts _ (List.mem_cons_of_mem _ m_fl_X8_344)
  have kf332 := hts _ (List.mem_cons_of_mem _ m_fl_X8_332)
  have kf353 := hts _ (List.mem_cons_of_mem _ m_fl_X8_353)
  have kf389 := hts _ (List.mem_cons_of_mem _ m_fl_X8_389)
  have kf392 := hts _ (List.mem_cons_of_mem _ m_fl_X8_392)
  have kf359 := hts _ (List.mem_cons_of_mem _ m_fl_X8_359)
  have kf362 := hts _ (List.mem_cons_of_mem _ m_fl_X8_362)
  have kf402 := hts _ (List.mem_cons_of_mem _ m_fl_X8_402)
  refine (?_ : ∀ (H : Heap) (locs : List Loc), va_P (dC, dI) vwCl (zzM ad cy iM aM) H → va_D A (zzM ad cy iM aM) → va_S A s.heap H locs → W p l e ({ frames := 2, cells := 0, slots := 0, locals := 42 } : Room) s m args below meth c H locs 0 0 QQ (F0 m 0 ls [])) s.heap [] hP hD hS
  clear hP hD hS
  intro H locs hP hD hS
  unfold f_M_count at h
  refine lv_iload_n hx hb dX8_count_0 rfl (lv_at hl 1 rfl) ?_
  refine lv_bipush (v := 11) hx hb dX8_count_1 (by decide) ?_
  refine lv_icmp_ne (tgt := 11) hx hb dX8_count_3 (by decide) (fun cz => ?_) (fun cz => ?_)
  · have h := g_f h cz
    refine lv_aload_n hx hb dX8_count_11 rfl (lv_at hl 0 rfl) ?_
    refine va_get (D := (dC, dI)) (ci := 8) (v := .int (iM 37)) (C := RX8) (T := TX8) (N := 78) hx hb hts ki8 hown hK hP 0 rfl rfl 37 (by decide) kf356 (fun _ h9 => h9) rfl dX8_count_12 ?_
    refine lv_if_ne (tgt := 21) hx hb dX8_count_15 (by decide) (fun cz => ?_) (fun cz => ?_)
    · have h := g_f h cz
      refine lv_iload_n hx hb dX8_count_21 rfl (lv_at hl 1 rfl) ?_
      rcases Decidable.em (a1 = (0 : Int32)) with c0 | c0
      · have h := g_t h c0
        refine lv_tableIn (off := 58) (tgt := 80) hx hb dX8_count_22 (by rw [c0]; decide) (by rw [c0]; decide) (by rw [c0]; rfl) (by decide) ?_
        refine lv_aload_n hx hb dX8_count_80 rfl (lv_at hl 0 rfl) ?_
        refine va_get (D := (dC, dI)) (ci := 8) (v := .int (iM 25)) (C := RX8) (T := TX8) (N := 78) hx hb hts ki8 hown hK hP 0 rfl rfl 25 (by decide) kf347 (fun _ h9 => h9) rfl dX8_count_81 ?_
        have h' := Option.some.inj h
        rw [← hQQ]
        exact W.iret (v := (iM 25)) hx hb hr (fun t ht hW => ⟨⟨(iM 25), (), rfl, by rw [← h'], by rw [← hWQ, ht]; exact hP, va_K.moved hW.alike hK⟩, hS.F ht⟩) hS.2.2 dX8_count_84
      · have h := g_f h c0
        rcases Decidable.em (a1 = (1 : Int32)) with c1 | c1
        · have h := g_t h c1
          refine lv_tableIn (off := 63) (tgt := 85) hx hb dX8_count_22 (by rw [c1]; decide) (by rw [c1]; decide) (by rw [c1]; rfl) (by decide) ?_
          refine lv_aload_n hx hb dX8_count_85 rfl (lv_at hl 0 rfl) ?_
          refine va_get (D := (dC, dI)) (ci := 8) (v := .int (iM 28)) (C := RX8) (T := TX8) (N := 78) hx hb hts ki8 hown hK hP 0 rfl rfl 28 (by decide) kf350 (fun _ h9 => h9) rfl dX8_count_86 ?_
          have h' := Option.some.inj h
          rw [← hQQ]
          exact W.iret (v := (iM 28)) hx hb hr (fun t ht hW => ⟨⟨(iM 28), (), rfl, by rw [← h'], by rw [← hWQ, ht]; exact hP, va_K.moved hW.alike hK⟩, hS.F ht⟩) hS.2.2 dX8_count_89
        · have h := g_f h c1
          rcases Decidable.em (a1 = (2 : Int32)) with c2 | c2
          · have h := g_t h c2
            refine lv_tableIn (off := 68) (tgt := 90) hx hb dX8_count_22 (by rw [c2]; decide) (by rw [c2]; decide) (by rw [c2]; rfl) (by decide) ?_
            refine lv_aload_n hx hb dX8_count_90 rfl (lv_at hl 0 rfl) ?_
            refine va_get (D := (dC, dI)) (ci := 8) (v := .int (iM 20)) (C := RX8) (T := TX8) (N := 78) hx hb hts ki8 hown hK hP 0 rfl rfl 20 (by decide) kf341 (fun _ h9 => h9) rfl dX8_count_91 ?_
            have h' := Option.some.inj h
            rw [← hQQ]
            exact W.iret (v := (iM 20)) hx hb hr (fun t ht hW => ⟨⟨(iM 20), (), rfl, by rw [← h'], by rw [← hWQ, ht]; exact hP, va_K.moved hW.alike hK⟩, hS.F ht⟩) hS.2.2 dX8_count_94
          · have h := g_f h c2
            rcases Decidable.em (a1 = (3 : Int32)) with c3 | c3
            · have h := g_t h c3
              refine lv_tableIn (off := 73) (tgt := 95) hx hb dX8_count_22 (by rw [c3]; decide) (by rw [c3]; decide) (by rw [c3]; rfl) (by decide) ?_
              refine lv_aload_n hx hb dX8_count_95 rfl (lv_at hl 0 rfl) ?_
              refine va_get (D := (dC, dI)) (ci := 8) (v := .int (iM 22)) (C := RX8) (T := TX8) (N := 78) hx hb hts ki8 hown hK hP 0 rfl rfl 22 (by decide) kf344 (fun _ h9 => h9) rfl dX8_count_96 ?_
              have h' := Option.some.inj h
              rw [← hQQ]
              exact W.iret (v := (iM 22)) hx hb hr (fun t ht hW => ⟨⟨(iM 22), (), rfl, by rw [← h'], by rw [← hWQ, ht]; exact hP, va_K.moved hW.alike hK⟩, hS.F ht⟩) hS.2.2 dX8_count_99
            · have h := g_f h c3
              rcases Decidable.em (a1 = (4 : Int32)) with c4 | c4
              · have h := g_t h c4
                refine lv_tableIn (off := 78) (tgt := 100) hx hb dX8_count_22 (by rw [c4]; decide) (by rw [c4]; decide) (by rw [c4]; rfl) (by decide) ?_
                refine lv_aload_n hx hb dX8_count_100 rfl (lv_at hl 0 rfl) ?_
                refine va_get (D := (dC, dI)) (ci := 8) (v := .int (iM 14)) (C := RX8) (T := TX8) (N := 78) hx hb hts ki8 hown hK hP 0 rfl rfl 14 (by decide) kf332 (fun _ h9 => h9) rfl dX8_count_101 ?_
                have h' := Option.some.inj h
                rw [← hQQ]
                exact W.iret (v := (iM 14)) hx hb hr (fun t ht hW => ⟨⟨(iM 14), (), rfl, by rw [← h'], by rw [← hWQ, ht]; exact hP, va_K.moved hW.alike hK⟩, hS.F ht⟩) hS.2.2 dX8_count_104
              · have h := g_f h c4
                rcases Decidable.em (a1 = (5 : Int32)) with c5 | c5
                · have h := g_t h c5
                  refine lv_tableIn (off := 83) (tgt := 105) hx hb dX8_count_22 (by rw [c5]; decide) (by rw [c5]; decide) (by rw [c5]; rfl) (by decide) ?_
                  refine lv_aload_n hx hb dX8_count_105 rfl (lv_at hl 0 rfl) ?_
                  refine va_get (D := (dC, dI)) (ci := 8) (v := .int (iM 36)) (C := RX8) (T := TX8) (N := 78) hx hb hts ki8 hown hK hP 0 rfl rfl 36 (by decide) kf353 (fun _ h9 => h9) rfl dX8_count_106 ?_
                  have h' := Option.some.inj h
                  rw [← hQQ]
                  exact W.iret (v := (iM 36)) hx hb hr (fun t ht hW => ⟨⟨(iM 36), (), rfl, by rw [← h'], by rw [← hWQ, ht]; exact hP, va_K.moved hW.alike hK⟩, hS.F ht⟩) hS.2.2 dX8_count_109
                · have h := g_f h c5
                  rcases Decidable.em (a1 = (6 : Int32)) with c6 | c6
                  · have h := g_t h c6
                    refine lv_tableIn (off := 88) (tgt := 110) hx hb dX8_count_22 (by rw [c6]; decide) (by rw [c6]; decide) (by rw [c6]; rfl) (by decide) ?_
                    refine lv_aload_n hx hb dX8_count_110 rfl (lv_at hl 0 rfl) ?_
                    refine va_get (D := (dC, dI)) (ci := 8) (v := .int (iM 64)) (C := RX8) (T := TX8) (N := 78) hx hb hts ki8 hown hK hP 0 rfl rfl 64 (by decide) kf389 (fun _ h9 => h9) rfl dX8_count_111 ?_
                    have h' := Option.some.inj h
                    rw [← hQQ]
                    exact W.iret (v := (iM 64)) hx hb hr (fun t ht hW => ⟨⟨(iM 64), (), rfl, by rw [← h'], by rw [← hWQ, ht]; exact hP, va_K.moved hW.alike hK⟩, hS.F ht⟩) hS.2.2 dX8_count_114
                  · have h := g_f h c6
                    rcases Decidable.em (a1 = (7 : Int32)) with c7 | c7
                    · have h := g_t h c7
                      refine lv_tableIn (off := 93) (tgt := 115) hx hb dX8_count_22 (by rw [c7]; decide) (by rw [c7]; decide) (by rw [c7]; rfl) (by decide) ?_
                      refine lv_aload_n hx hb dX8_count_115 rfl (lv_at hl 0 rfl) ?_
                      obtain ⟨q116, e116, h⟩ := g_b h
                      refine callVis (cc := cX8_count) (w1 := zzM ad cy iM aM) (As := []) (rest := []) ⟨hx, hb, hml, hown, hts⟩ (c_M_standing l dC dI cy ad H.size N iM aM q116 e116) (cwV 0 hts (goodV m_ml_X8_405 m_im_X8_standing m_se_X8_standing m_in_X8 m_cd_X8_standing) rfl rfl rfl (by decide +kernel) ⟨Nat.le_of_ble_eq_true rfl, Nat.le_of_ble_eq_true rfl⟩) hN hK hP hD hS hA rfl 0 rfl rfl rfl hl.1 rfl (Nat.le_of_ble_eq_true rfl) dX8_count_116 ⟨Nat.zero_le _, Nat.zero_le _⟩ (fun H locs hP hD hS => ?_)
                      have h' := Option.some.inj h
                      rw [← hQQ]
                      exact W.iret (v := q116) hx hb hr (fun t ht hW => ⟨⟨q116, (), rfl, by rw [← h'], by rw [← hWQ, ht]; exact hP, va_K.moved hW.alike hK⟩, hS.F ht⟩) hS.2.2 dX8_count_119
                    · have h := g_f h c7
                      rcases Decidable.em (a1 = (8 : Int32)) with c8 | c8
                      · have h := g_t h c8
                        refine lv_tableIn (off := 98) (tgt := 120) hx hb dX8_count_22 (by rw [c8]; decide) (by rw [c8]; decide) (by rw [c8]; rfl) (by decide) ?_
                        refine lv_aload_n hx hb dX8_count_120 rfl (lv_at hl 0 rfl) ?_
                        refine va_get (D := (dC, dI)) (ci := 8) (v := .int (iM 65)) (C := RX8) (T := TX8) (N := 78) hx hb hts ki8 hown hK hP 0 rfl rfl 65 (by decide) kf392 (fun _ h9 => h9) rfl dX8_count_121 ?_
                        have h' := Option.some.inj h
                        rw [← hQQ]
                        exact W.iret (v := (iM 65)) hx hb hr (fun t ht hW => ⟨⟨(iM 65), (), rfl, by rw [← h'], by rw [← hWQ, ht]; exact hP, va_K.moved hW.alike hK⟩, hS.F ht⟩) hS.2.2 dX8_count_124
                      · have h := g_f h c8
                        rcases Decidable.em (a1 = (9 : Int32)) with c9 | c9
                        · have h := g_t h c9
                          refine lv_tableIn (off := 103) (tgt := 125) hx hb dX8_count_22 (by rw [c9]; decide) (by rw [c9]; decide) (by rw [c9]; rfl) (by decide) ?_
                          refine lv_aload_n hx hb dX8_count_125 rfl (lv_at hl 0 rfl) ?_
                          refine va_get (D := (dC, dI)) (ci := 8) (v := .int (iM 66)) (C := RX8) (T := TX8) (N := 78) hx hb hts ki8 hown hK hP 0 rfl rfl 66 (by decide) kf359 (fun _ h9 => h9) rfl dX8_count_126 ?_
                          have h' := Option.some.inj h
                          rw [← hQQ]
                          exact W.iret (v := (iM 66)) hx hb hr (fun t ht hW => ⟨⟨(iM 66), (), rfl, by rw [← h'], by rw [← hWQ, ht]; exact hP, va_K.moved hW.alike hK⟩, hS.F ht⟩) hS.2.2 dX8_count_129
                        · have h := g_f h c9
                          rcases Decidable.em (a1 = (10 : Int32)) with c10 | c10
                          · have h := g_t h c10
                            refine lv_tableIn (off := 108) (tgt := 130) hx hb dX8_count_22 (by rw [c10]; decide) (by rw [c10]; decide) (by rw [c10]; rfl) (by decide) ?_
                            refine lv_aload_n hx hb dX8_count_130 rfl (lv_at hl 0 rfl) ?_
                            refine va_get (D := (dC, dI)) (ci := 8) (v := .int (iM 68)) (C := RX8) (T := TX8) (N := 78) hx hb hts ki8 hown hK hP 0 rfl rfl 68 (by decide) kf362 (fun _ h9 => h9) rfl dX8_count_131 ?_
                            have h' := Option.some.inj h
                            rw [← hQQ]
                            exact W.iret (v := (iM 68)) hx hb hr (fun t ht hW => ⟨⟨(iM 68), (), rfl, by rw [← h'], by rw [← hWQ, ht]; exact hP, va_K.moved hW.alike hK⟩, hS.F ht⟩) hS.2.2 dX8_count_134
                          · have h := g_f h c10
                            refine lv_tableOut (tgt := 135) hx hb dX8_count_22 (by have z0 := tne (n := 0) (by decide) c0; have z1 := tne (n := 1) (by decide) c1; have z2 := tne (n := 2) (by decide) c2; have z3 := tne (n := 3) (by decide) c3; have z4 := tne (n := 4) (by decide) c4; have z5 := tne (n := 5) (by decide) c5; have z6 := tne (n := 6) (by decide) c6; have z7 := tne (n := 7) (by decide) c7; have z8 := tne (n := 8) (by decide) c8; have z9 := tne (n := 9) (by decide) c9; have z10 := tne (n := 10) (by decide) c10; omega) (by decide) ?_
                            refine lv_bipush (v := (-103)) hx hb dX8_count_135 (by decide) ?_
                            have h' := Option.some.inj h
                            rw [← hQQ]
                            exact W.iret (v := (-103 : Int32)) hx hb hr (fun t ht hW => ⟨⟨(-103 : Int32), (), rfl, by rw [← h'], by rw [← hWQ, ht]; exact hP, va_K.moved hW.alike hK⟩, hS.F ht⟩) hS.2.2 dX8_count_137
    · have h := g_t h cz
      refine lv_bipush (v := (-101)) hx hb dX8_count_18 (by decide) ?_
      have h' := Option.some.inj h
      rw [← hQQ]
      exact W.iret (v := (-101 : Int32)) hx hb hr (fun t ht hW => ⟨⟨(-101 : Int32), (), rfl, by rw [← h'], by rw [← hWQ, ht]; exact hP, va_K.moved hW.alike hK⟩, hS.F ht⟩) hS.2.2 dX8_count_20
  · have h := g_t h cz
    refine lv_aload_n hx hb dX8_count_6 rfl (lv_at hl 0 rfl) ?_
    refine va_get (D := (dC, dI)) (ci := 8) (v := .int (iM 73)) (C := RX8) (T := TX8) (N := 78) hx hb hts ki8 hown hK hP 0 rfl rfl 73 (by decide) kf402 (fun _ h9 => h9) rfl dX8_count_7 ?_
    have h' := Option.some.inj h
    rw [← hQQ]
    exact W.iret (v := (iM 73)) hx hb hr (fun t ht hW => ⟨⟨(iM 73), (), rfl, by rw [← h'], by rw [← hWQ, ht]; exact hP, va_K.moved hW.alike hK⟩, hS.F ht⟩) hS.2.2 dX8_count_10
set_option maxHeartbeats 8000000 in
set_option maxRecDepth 100000 in
theorem c_M_atom (l : Launch) (dC : Nat → ClassId) (dI : Nat → Nat → Nat) (cy : Nat → ClassId) (ad : Nat → Nat) (sz : Nat) (a1 : Int32) (a2 : Int32) (iM : Nat → Int32) (aM : Nat → Nat → Int32) (q : Int32) (h : f_M_atom a1 a2 (iM 36) (iM 37) (aM 32) (aM 33) = some q) : Met l yX8_atom wsX8_atom ({ frames := 1, cells := 0, slots := 0, locals := 25 } : Room) (cP (dC, dI) cy [.ref (ad 0), .int a1, .int a2] (zzM ad cy iM aM) sz) (cQi (dC, dI) cy q (zzM ad cy iM aM) (va_A (zzM ad cy iM aM) sz)) 0 0 (va_A (zzM ad cy iM aM) sz) := by
  refine Met.ofW (cc := cX8_atom) (maxL := 3) (ret := (some .int)) (by decide) rfl ?_
  intro p e s m args below meth c s₁ B hml hv
  obtain ⟨hav, hsz, hP, hK, hD0, hN⟩ := hv
  have hx := B.exec
  have hb := B.bytes
  have hr := B.returns
  have hts := atoms_spec (ws := wsX8_atom) B.pre
  have hown : s.vm.findClass RX8 = some m.cls := findClass_of_methodNamed B.named
  have hlocks := B.notSynchronized
  subst hsz
  have hD := hD0.self (sz := s.heap.size)
  generalize hAe : va_A (zzM ad cy iM aM) s.heap.size = A at hD ⊢
  have hA : ∀ q : Nat, s.heap.size ≤ q → A q := fun q h => by rw [← hAe]; exact Or.inr h
  have hS : va_S A s.heap s.heap [] := va_S.rf
  generalize hWQ : (zzM ad cy iM aM) = WQ
  generalize hQQ : MQ below (cQi (dC, dI) cy q WQ A) args s 0 0 A = QQ
  have hl := lv_entry ([.ref (ad 0), .int a1, .int a2] : List Value) (n := 3) (Nat.le_of_ble_eq_true rfl)
  have hfr := lg_entry_eq m ([.ref (ad 0), .int a1, .int a2] : List Value) 3
  rw [← hav] at hfr
  rw [hfr]
  clear hfr hav
  generalize (lg_sl ([.ref (ad 0), .int a1, .int a2] : List Value) ++ List.replicate (3 - (lg_sl ([.ref (ad 0), .int a1, .int a2] : List Value)).length) Slot.unset).toArray = ls at hl ⊢
  have hl : lv_has ls 3 [(0, .ref (ad 0)), (1, .int a1), (2, .int a2)] := hl
  have kf356 := hts _ (List.mem_cons_of_mem _ m_fl_X8_356)
  have ki8 := (fun w h => List.mem_cons_of_mem _ (i_X8 w h) : ∀ w ∈ u_ws RX8 TX8 78, w ∈ wsX8_atom)
  have kf353 := hts _ (List.mem_cons_of_mem _ m_fl_X8_353)
  have kf76 := hts _ (List.mem_cons_of_mem _ m_fl_X8_76)
  have kf73 := hts _ (List.mem_cons_of_mem _ m_fl_X8_73)
  refine (?_ : ∀ (H : Heap) (locs : List Loc), va_P (dC, dI) vwCl (zzM ad cy iM aM) H → va_D A (zzM ad cy iM aM) → va_S A s.heap H locs → W p l e ({ frames := 1, cells := 0, slots := 0, locals := 25 } : Room) s m args below meth c H locs 0 0 QQ (F0 m 0 ls [])) s.heap [] hP hD hS
  clear hP hD hS
  intro H locs hP hD hS
  unfold f_M_atom at h
  refine lv_aload_n hx hb dX8_atom_0 rfl (lv_at hl 0 rfl) ?_
  refine va_get (D := (dC, dI)) (ci := 8) (v := .int (iM 37)) (C := RX8) (T := TX8) (N := 78) hx hb hts ki8 hown hK hP 0 rfl rfl 37 (by decide) kf356 (fun _ h9 => h9) rfl dX8_atom_1 ?_
  refine lv_if_ne (tgt := 10) hx hb dX8_atom_4 (by decide) (fun cz => ?_) (fun cz => ?_)
  · have h := g_f h cz
    refine lv_iload_n hx hb dX8_atom_10 rfl (lv_at hl 1 rfl) ?_
    refine lv_i2l (v := (a1).toInt64) hx hb dX8_atom_11 rfl ?_
    refine lv_lconst (v := 0) hx hb dX8_atom_12 (by decide) ?_
    refine lv_aload_n hx hb dX8_atom_13 rfl (lv_at hl 0 rfl) ?_
    refine va_get (D := (dC, dI)) (ci := 8) (v := .int (iM 36)) (C := RX8) (T := TX8) (N := 78) hx hb hts ki8 hown hK hP 0 rfl rfl 36 (by decide) kf353 (fun _ h9 => h9) rfl dX8_atom_14 ?_
    refine lv_iconst (v := 1) hx hb dX8_atom_17 (by decide) ?_
    refine lv_isub hx hb dX8_atom_18 ?_
    refine lv_i2l (v := (((iM 36) - (1 : Int32))).toInt64) hx hb dX8_atom_19 rfl ?_
    obtain ⟨q20, e20, h⟩ := g_b h
    refine callSi (cc := cX8_atom) (ws' := zzM ad cy iM aM) (As := [.long (a1).toInt64, .long ((0 : Int64)), .long ((((iM 36) - (1 : Int32))).toInt64)]) (rest := []) ⟨hx, hb, hml, hown, hts⟩ (c_M_in l dC dI cy ad H.size (a1).toInt64 ((0 : Int64)) ((((iM 36) - (1 : Int32))).toInt64) q20 e20) (va_cwS 3 hts (goodS m_ml_X8_154 m_st_X8_in m_in_X8 m_cd_X8_in) rfl rfl rfl (by decide +kernel) ⟨Nat.le_of_ble_eq_true rfl, Nat.le_of_ble_eq_true rfl⟩) hN hK hP hD hS hA [] [none, none, none, none, none, none, none, none, none, none, none, none, none, none, none, none, none, none, none, none, none, none, none, none, none, none, none, none, none, none, none, none, none, none, none, none, none, none, none, none, none, none, none, none] rfl rfl rfl rfl rfl rfl rfl hl.1 rfl (Nat.le_of_ble_eq_true rfl) dX8_atom_20 ⟨Nat.zero_le _, Nat.zero_le _⟩ (fun H locs hP hD hS => ?_)
    refine lv_if_ne (tgt := 29) hx hb dX8_atom_23 (by decide) (fun cz => ?_) (fun cz => ?_)
    · have h := g_f h cz
      refine lv_iload_n hx hb dX8_atom_29 rfl (lv_at hl 2 rfl) ?_
      refine lv_if_ne (tgt := 42) hx hb dX8_atom_30 (by decide) (fun cz => ?_) (fun cz => ?_)
      · have h := g_f h cz
        refine lv_iload_n hx hb dX8_atom_42 rfl (lv_at hl 2 rfl) ?_
        refine lv_iconst (v := 1) hx hb dX8_atom_43 (by decide) ?_
        refine lv_icmp_ne (tgt := 56) hx hb dX8_atom_44 (by decide) (fun cz => ?_) (fun cz => ?_)
        · have h := g_f h cz
          refine lv_bipush (v := (-103)) hx hb dX8_atom_56 (by decide) ?_
          have h' := Option.some.inj h
          rw [← hQQ]
          exact W.iret (v := (-103 : Int32)) hx hb hr (fun t ht hW => ⟨⟨(-103 : Int32), (), rfl, by rw [← h'], by rw [← hWQ, ht]; exact hP, va_K.moved hW.alike hK⟩, hS.F ht⟩) hS.2.2 dX8_atom_58
        · have h := g_t h cz
          refine lv_aload_n hx hb dX8_atom_47 rfl (lv_at hl 0 rfl) ?_
          refine va_get (D := (dC, dI)) (ci := 8) (v := .ref (ad 22)) (C := RX8) (T := TX8) (N := 78) hx hb hts ki8 hown hK hP 0 rfl rfl 33 (by decide) kf76 (fun _ h9 => h9) rfl dX8_atom_48 ?_
          refine lv_iload_n hx hb dX8_atom_51 rfl (lv_at hl 1 rfl) ?_
          obtain ⟨g_130, h⟩ := g_n h
          refine va_iald (f := (aM 33)) hx hb hK hP 22 0 rfl rfl g_130 dX8_atom_52 ?_
          refine lv_goto (tgt := 58) hx hb dX8_atom_53 (by decide) ?_
          have h' := Option.some.inj h
          rw [← hQQ]
          exact W.iret (v := ((aM 33) a1.toNatClampNeg)) hx hb hr (fun t ht hW => ⟨⟨((aM 33) a1.toNatClampNeg), (), rfl, by rw [← h'], by rw [← hWQ, ht]; exact hP, va_K.moved hW.alike hK⟩, hS.F ht⟩) hS.2.2 dX8_atom_58
      · have h := g_t h cz
        refine lv_aload_n hx hb dX8_atom_33 rfl (lv_at hl 0 rfl) ?_
        refine va_get (D := (dC, dI)) (ci := 8) (v := .ref (ad 21)) (C := RX8) (T := TX8) (N := 78) hx hb hts ki8 hown hK hP 0 rfl rfl 32 (by decide) kf73 (fun _ h9 => h9) rfl dX8_atom_34 ?_
        refine lv_iload_n hx hb dX8_atom_37 rfl (lv_at hl 1 rfl) ?_
        obtain ⟨g_130, h⟩ := g_n h
        refine va_iald (f := (aM 32)) hx hb hK hP 21 0 rfl rfl g_130 dX8_atom_38 ?_
        refine lv_goto (tgt := 58) hx hb dX8_atom_39 (by decide) ?_
        have h' := Option.some.inj h
        rw [← hQQ]
        exact W.iret (v := ((aM 32) a1.toNatClampNeg)) hx hb hr (fun t ht hW => ⟨⟨((aM 32) a1.toNatClampNeg), (), rfl, by rw [← h'], by rw [← hWQ, ht]; exact hP, va_K.moved hW.alike hK⟩, hS.F ht⟩) hS.2.2 dX8_atom_58
    · have h := g_t h cz
      refine lv_bipush (v := (-102)) hx hb dX8_atom_26 (by decide) ?_
      have h' := Option.some.inj h
      rw [← hQQ]
      exact W.iret (v := (-102 : Int32)) hx hb hr (fun t ht hW => ⟨⟨(-102 : Int32), (), rfl, by rw [← h'], by rw [← hWQ, ht]; exact hP, va_K.moved hW.alike hK⟩, hS.F ht⟩) hS.2.2 dX8_atom_28
  · have h := g_t h cz
    refine lv_bipush (v := (-101)) hx hb dX8_atom_7 (by decide) ?_
    have h' := Option.some.inj h
    rw [← hQQ]
    exact W.iret (v := (-101 : Int32)) hx hb hr (fun t ht hW => ⟨⟨(-101 : Int32), (), rfl, by rw [← h'], by rw [← hWQ, ht]; exact hP, va_K.moved hW.alike hK⟩, hS.F ht⟩) hS.2.2 dX8_atom_9
set_option maxHeartbeats 8000000 in
set_option maxRecDepth 100000 in
theorem c_M_noType (l : Launch) (dC : Nat → ClassId) (dI : Nat → Nat → Nat) (cy : Nat → ClassId) (ad : Nat → Nat) (sz : Nat) (a1 : Int32) (iM : Nat → Int32) (aM : Nat → Nat → Int32) (q : Int32) (h : f_M_noType a1 (iM 36) = some q) : Met l yX8_noType wsX8_noType ({ frames := 1, cells := 0, slots := 0, locals := 25 } : Room) (cP (dC, dI) cy [.ref (ad 0), .int a1] (zzM ad cy iM aM) sz) (cQi (dC, dI) cy q (zzM ad cy iM aM) (va_A (zzM ad cy iM aM) sz)) 0 0 (va_A (zzM ad cy iM aM) sz) := by
  refine Met.ofW (cc := cX8_noType) (maxL := 2) (ret := (some .boolean)) (by decide) rfl ?_
  intro p e s m args below meth c s₁ B hml hv
  obtain ⟨hav, hsz, hP, hK, hD0, hN⟩ := hv
  have hx := B.exec
  have hb := B.bytes
  have hr := B.returns
  have hts := atoms_spec (ws := wsX8_noType) B.pre
  have hown : s.vm.findClass RX8 = some m.cls := findClass_of_methodNamed B.named
  have hlocks := B.notSynchronized
  subst hsz
  have hD := hD0.self (sz := s.heap.size)
  generalize hAe : va_A (zzM ad cy iM aM) s.heap.size = A at hD ⊢
  have hA : ∀ q : Nat, s.heap.size ≤ q → A q := fun q h => by rw [← hAe]; exact Or.inr h
  have hS : va_S A s.heap s.heap [] := va_S.rf
  generalize hWQ : (zzM ad cy iM aM) = WQ
  generalize hQQ : MQ below (cQi (dC, dI) cy q WQ A) args s 0 0 A = QQ
  have hl := lv_entry ([.ref (ad 0), .int a1] : List Value) (n := 2) (Nat.le_of_ble_eq_true rfl)
  have hfr := lg_entry_eq m ([.ref (ad 0), .int a1] : List Value) 2
  rw [← hav] at hfr
  rw [hfr]
  clear hfr hav
  generalize (lg_sl ([.ref (ad 0), .int a1] : List Value) ++ List.replicate (2 - (lg_sl ([.ref (ad 0), .int a1] : List Value)).length) Slot.unset).toArray = ls at hl ⊢
  have hl : lv_has ls 2 [(0, .ref (ad 0)), (1, .int a1)] := hl
  refine (?_ : ∀ (H : Heap) (locs : List Loc), va_P (dC, dI) vwCl (zzM ad cy iM aM) H → va_D A (zzM ad cy iM aM) → va_S A s.heap H locs → W p l e ({ frames := 1, cells := 0, slots := 0, locals := 25 } : Room) s m args below meth c H locs 0 0 QQ (F0 m 0 ls [])) s.heap [] hP hD hS
  clear hP hD hS
  intro H locs hP hD hS
  unfold f_M_noType at h
  refine lv_iload_n hx hb dX8_noType_0 rfl (lv_at hl 1 rfl) ?_
  refine lv_i2l (v := (a1).toInt64) hx hb dX8_noType_1 rfl ?_
  refine lv_lconst (v := 0) hx hb dX8_noType_2 (by decide) ?_
  refine lv_aload_n hx hb dX8_noType_3 rfl (lv_at hl 0 rfl) ?_
  obtain ⟨q4, e4, h⟩ := g_b h
  refine callVis (cc := cX8_noType) (w1 := zzM ad cy iM aM) (As := []) (rest := [.long ((0 : Int64)), .long (a1).toInt64]) ⟨hx, hb, hml, hown, hts⟩ (c_M_types l dC dI cy ad H.size iM aM q4 e4) (cwV 0 hts (goodV m_ml_X8_368 m_im_X8_types m_se_X8_types m_in_X8 m_cd_X8_types) rfl rfl rfl (by decide +kernel) ⟨Nat.le_of_ble_eq_true rfl, Nat.le_of_ble_eq_true rfl⟩) hN hK hP hD hS hA rfl 0 rfl rfl rfl hl.1 rfl (Nat.le_of_ble_eq_true rfl) dX8_noType_4 ⟨Nat.zero_le _, Nat.zero_le _⟩ (fun H locs hP hD hS => ?_)
  refine lv_iconst (v := 1) hx hb dX8_noType_7 (by decide) ?_
  refine lv_isub hx hb dX8_noType_8 ?_
  refine lv_i2l (v := ((q4 - (1 : Int32))).toInt64) hx hb dX8_noType_9 rfl ?_
  obtain ⟨q10, e10, h⟩ := g_b h
  refine callSi (cc := cX8_noType) (ws' := zzM ad cy iM aM) (As := [.long (a1).toInt64, .long ((0 : Int64)), .long (((q4 - (1 : Int32))).toInt64)]) (rest := []) ⟨hx, hb, hml, hown, hts⟩ (c_M_in l dC dI cy ad H.size (a1).toInt64 ((0 : Int64)) (((q4 - (1 : Int32))).toInt64) q10 e10) (va_cwS 3 hts (goodS m_ml_X8_154 m_st_X8_in m_in_X8 m_cd_X8_in) rfl rfl rfl (by decide +kernel) ⟨Nat.le_of_ble_eq_true rfl, Nat.le_of_ble_eq_true rfl⟩) hN hK hP hD hS hA [] [none, none, none, none, none, none, none, none, none, none, none, none, none, none, none, none, none, none, none, none, none, none, none, none, none, none, none, none, none, none, none, none, none, none, none, none, none, none, none, none, none, none, none, none] rfl rfl rfl rfl rfl rfl rfl hl.1 rfl (Nat.le_of_ble_eq_true rfl) dX8_noType_10 ⟨Nat.zero_le _, Nat.zero_le _⟩ (fun H locs hP hD hS => ?_)
  refine lv_if_ne (tgt := 20) hx hb dX8_noType_13 (by decide) (fun cz => ?_) (fun cz => ?_)
  · have h := g_f h cz
    refine lv_iconst (v := 0) hx hb dX8_noType_20 (by decide) ?_
    have h' := Option.some.inj h
    rw [← hQQ]
    exact W.zret (v := (0 : Int32)) hx hb hr rfl (fun t ht hW => ⟨⟨(0 : Int32), (), rfl, by rw [← h'], by rw [← hWQ, ht]; exact hP, va_K.moved hW.alike hK⟩, hS.F ht⟩) hS.2.2 dX8_noType_21
  · have h := g_t h cz
    refine lv_iconst (v := 1) hx hb dX8_noType_16 (by decide) ?_
    refine lv_goto (tgt := 21) hx hb dX8_noType_17 (by decide) ?_
    have h' := Option.some.inj h
    rw [← hQQ]
    exact W.zret (v := (1 : Int32)) hx hb hr rfl (fun t ht hW => ⟨⟨(1 : Int32), (), rfl, by rw [← h'], by rw [← hWQ, ht]; exact hP, va_K.moved hW.alike hK⟩, hS.F ht⟩) hS.2.2 dX8_noType_21
set_option maxHeartbeats 8000000 in
set_option maxRecDepth 100000 in
theorem c_M_noQuestion (l : Launch) (dC : Nat → ClassId) (dI : Nat → Nat → Nat) (cy : Nat → ClassId) (ad : Nat → Nat) (sz : Nat) (a1 : Int32) (iM : Nat → Int32) (aM : Nat → Nat → Int32) (q : Int32) (h : f_M_noQuestion a1 (iM 22) = some q) : Met l yX8_noQuestion wsX8_noQuestion ({ frames := 1, cells := 0, slots := 0, locals := 25 } : Room) (cP (dC, dI) cy [.ref (ad 0), .int a1] (zzM ad cy iM aM) sz) (cQi (dC, dI) cy q (zzM ad cy iM aM) (va_A (zzM ad cy iM aM) sz)) 0 0 (va_A (zzM ad cy iM aM) sz) := by
  refine Met.ofW (cc := cX8_noQuestion) (maxL := 2) (ret := (some .boolean)) (by decide) rfl ?_
  intro p e s m args below meth c s₁ B hml hv
  obtain ⟨hav, hsz, hP, hK, hD0, hN⟩ := hv
  have hx := B.exec
  have hb := B.bytes
  have hr := B.returns
  have hts := atoms_spec (ws := wsX8_noQuestion) B.pre
  have hown : s.vm.findClass RX8 = some m.cls := findClass_of_methodNamed B.named
  have hlocks := B.notSynchronized
  subst hsz
  have hD := hD0.self (sz := s.heap.size)
  generalize hAe : va_A (zzM ad cy iM aM) s.heap.size = A at hD ⊢
  have hA : ∀ q : Nat, s.heap.size ≤ q → A q := fun q h => by rw [← hAe]; exact Or.inr h
  have hS : va_S A s.heap s.heap [] := va_S.rf
  generalize hWQ : (zzM ad cy iM aM) = WQ
  generalize hQQ : MQ below (cQi (dC, dI) cy q WQ A) args s 0 0 A = QQ
  have hl := lv_entry ([.ref (ad 0), .int a1] : List Value) (n := 2) (Nat.le_of_ble_eq_true rfl)
  have hfr := lg_entry_eq m ([.ref (ad 0), .int a1] : List Value) 2
  rw [← hav] at hfr
  rw [hfr]
  clear hfr hav
  generalize (lg_sl ([.ref (ad 0), .int a1] : List Value) ++ List.replicate (2 - (lg_sl ([.ref (ad 0), .int a1] : List Value)).length) Slot.unset).toArray = ls at hl ⊢
  have hl : lv_has ls 2 [(0, .ref (ad 0)), (1, .int a1)] := hl
  have kf344 := hts _ (List.mem_cons_of_mem _ m_fl_X8_344)
  have ki8 := (fun w h => List.mem_cons_of_mem _ (i_X8 w h) : ∀ w ∈ u_ws RX8 TX8 78, w ∈ wsX8_noQuestion)
  refine (?_ : ∀ (H : Heap) (locs : List Loc), va_P (dC, dI) vwCl (zzM ad cy iM aM) H → va_D A (zzM ad cy iM aM) → va_S A s.heap H locs → W p l e ({ frames := 1, cells := 0, slots := 0, locals := 25 } : Room) s m args below meth c H locs 0 0 QQ (F0 m 0 ls [])) s.heap [] hP hD hS
  clear hP hD hS
  intro H locs hP hD hS
  unfold f_M_noQuestion at h
  refine lv_iload_n hx hb dX8_noQuestion_0 rfl (lv_at hl 1 rfl) ?_
  refine lv_i2l (v := (a1).toInt64) hx hb dX8_noQuestion_1 rfl ?_
  refine lv_lconst (v := 0) hx hb dX8_noQuestion_2 (by decide) ?_
  refine lv_aload_n hx hb dX8_noQuestion_3 rfl (lv_at hl 0 rfl) ?_
  refine va_get (D := (dC, dI)) (ci := 8) (v := .int (iM 22)) (C := RX8) (T := TX8) (N := 78) hx hb hts ki8 hown hK hP 0 rfl rfl 22 (by decide) kf344 (fun _ h9 => h9) rfl dX8_noQuestion_4 ?_
  refine lv_iconst (v := 1) hx hb dX8_noQuestion_7 (by decide) ?_
  refine lv_isub hx hb dX8_noQuestion_8 ?_
  refine lv_i2l (v := (((iM 22) - (1 : Int32))).toInt64) hx hb dX8_noQuestion_9 rfl ?_
  obtain ⟨q10, e10, h⟩ := g_b h
  refine callSi (cc := cX8_noQuestion) (ws' := zzM ad cy iM aM) (As := [.long (a1).toInt64, .long ((0 : Int64)), .long ((((iM 22) - (1 : Int32))).toInt64)]) (rest := []) ⟨hx, hb, hml, hown, hts⟩ (c_M_in l dC dI cy ad H.size (a1).toInt64 ((0 : Int64)) ((((iM 22) - (1 : Int32))).toInt64) q10 e10) (va_cwS 3 hts (goodS m_ml_X8_154 m_st_X8_in m_in_X8 m_cd_X8_in) rfl rfl rfl (by decide +kernel) ⟨Nat.le_of_ble_eq_true rfl, Nat.le_of_ble_eq_true rfl⟩) hN hK hP hD hS hA [] [none, none, none, none, none, none, none, none, none, none, none, none, none, none, none, none, none, none, none, none, none, none, none, none, none, none, none, none, none, none, none, none, none, none, none, none, none, none, none, none, none, none, none, none] rfl rfl rfl rfl rfl rfl rfl hl.1 rfl (Nat.le_of_ble_eq_true rfl) dX8_noQuestion_10 ⟨Nat.zero_le _, Nat.zero_le _⟩ (fun H locs hP hD hS => ?_)
  refine lv_if_ne (tgt := 20) hx hb dX8_noQuestion_13 (by decide) (fun cz => ?_) (fun cz => ?_)
  · have h := g_f h cz
    refine lv_iconst (v := 0) hx hb dX8_noQuestion_20 (by decide) ?_
    have h' := Option.some.inj h
    rw [← hQQ]
    exact W.zret (v := (0 : Int32)) hx hb hr rfl (fun t ht hW => ⟨⟨(0 : Int32), (), rfl, by rw [← h'], by rw [← hWQ, ht]; exact hP, va_K.moved hW.alike hK⟩, hS.F ht⟩) hS.2.2 dX8_noQuestion_21
  · have h := g_t h cz
    refine lv_iconst (v := 1) hx hb dX8_noQuestion_16 (by decide) ?_
    refine lv_goto (tgt := 21) hx hb dX8_noQuestion_17 (by decide) ?_
    have h' := Option.some.inj h
    rw [← hQQ]
    exact W.zret (v := (1 : Int32)) hx hb hr rfl (fun t ht hW => ⟨⟨(1 : Int32), (), rfl, by rw [← h'], by rw [← hWQ, ht]; exact hP, va_K.moved hW.alike hK⟩, hS.F ht⟩) hS.2.2 dX8_noQuestion_21
set_option maxHeartbeats 8000000 in
set_option maxRecDepth 100000 in
theorem c_M_noName (l : Launch) (dC : Nat → ClassId) (dI : Nat → Nat → Nat) (cy : Nat → ClassId) (ad : Nat → Nat) (sz : Nat) (a1 : Int32) (iM : Nat → Int32) (aM : Nat → Nat → Int32) (q : Int32) (h : f_M_noName a1 (iM 25) = some q) : Met l yX8_noName wsX8_noName ({ frames := 1, cells := 0, slots := 0, locals := 25 } : Room) (cP (dC, dI) cy [.ref (ad 0), .int a1] (zzM ad cy iM aM) sz) (cQi (dC, dI) cy q (zzM ad cy iM aM) (va_A (zzM ad cy iM aM) sz)) 0 0 (va_A (zzM ad cy iM aM) sz) := by
  refine Met.ofW (cc := cX8_noName) (maxL := 2) (ret := (some .boolean)) (by decide) rfl ?_
  intro p e s m args below meth c s₁ B hml hv
  obtain ⟨hav, hsz, hP, hK, hD0, hN⟩ := hv
  have hx := B.exec
  have hb := B.bytes
  have hr := B.returns
  have hts := atoms_spec (ws := wsX8_noName) B.pre
  have hown : s.vm.findClass RX8 = some m.cls := findClass_of_methodNamed B.named
  have hlocks := B.notSynchronized
  subst hsz
  have hD := hD0.self (sz := s.heap.size)
  generalize hAe : va_A (zzM ad cy iM aM) s.heap.size = A at hD ⊢
  have hA : ∀ q : Nat, s.heap.size ≤ q → A q := fun q h => by rw [← hAe]; exact Or.inr h
  have hS : va_S A s.heap s.heap [] := va_S.rf
  generalize hWQ : (zzM ad cy iM aM) = WQ
  generalize hQQ : MQ below (cQi (dC, dI) cy q WQ A) args s 0 0 A = QQ
  have hl := lv_entry ([.ref (ad 0), .int a1] : List Value) (n := 2) (Nat.le_of_ble_eq_true rfl)
  have hfr := lg_entry_eq m ([.ref (ad 0), .int a1] : List Value) 2
  rw [← hav] at hfr
  rw [hfr]
  clear hfr hav
  generalize (lg_sl ([.ref (ad 0), .int a1] : List Value) ++ List.replicate (2 - (lg_sl ([.ref (ad 0), .int a1] : List Value)).length) Slot.unset).toArray = ls at hl ⊢
  have hl : lv_has ls 2 [(0, .ref (ad 0)), (1, .int a1)] := hl
  have kf347 := hts _ (List.mem_cons_of_mem _ m_fl_X8_347)
  have ki8 := (fun w h => List.mem_cons_of_mem _ (i_X8 w h) : ∀ w ∈ u_ws RX8 TX8 78, w ∈ wsX8_noName)
  refine (?_ : ∀ (H : Heap) (locs : List Loc), va_P (dC, dI) vwCl (zzM ad cy iM aM) H → va_D A (zzM ad cy iM aM) → va_S A s.heap H locs → W p l e ({ frames := 1, cells := 0, slots := 0, locals := 25 } : Room) s m args below meth c H locs 0 0 QQ (F0 m 0 ls [])) s.heap [] hP hD hS
  clear hP hD hS
  intro H locs hP hD hS
  unfold f_M_noName at h
  refine lv_iload_n hx hb dX8_noName_0 rfl (lv_at hl 1 rfl) ?_
  refine lv_i2l (v := (a1).toInt64) hx hb dX8_noName_1 rfl ?_
  refine lv_lconst (v := 0) hx hb dX8_noName_2 (by decide) ?_
  refine lv_aload_n hx hb dX8_noName_3 rfl (lv_at hl 0 rfl) ?_
  refine va_get (D := (dC, dI)) (ci := 8) (v := .int (iM 25)) (C := RX8) (T := TX8) (N := 78) hx hb hts ki8 hown hK hP 0 rfl rfl 25 (by decide) kf347 (fun _ h9 => h9) rfl dX8_noName_4 ?_
  refine lv_iconst (v := 1) hx hb dX8_noName_7 (by decide) ?_
  refine lv_isub hx hb dX8_noName_8 ?_
  refine lv_i2l (v := (((iM 25) - (1 : Int32))).toInt64) hx hb dX8_noName_9 rfl ?_
  obtain ⟨q10, e10, h⟩ := g_b h
  refine callSi (cc := cX8_noName) (ws' := zzM ad cy iM aM) (As := [.long (a1).toInt64, .long ((0 : Int64)), .long ((((iM 25) - (1 : Int32))).toInt64)]) (rest := []) ⟨hx, hb, hml, hown, hts⟩ (c_M_in l dC dI cy ad H.size (a1).toInt64 ((0 : Int64)) ((((iM 25) - (1 : Int32))).toInt64) q10 e10) (va_cwS 3 hts (goodS m_ml_X8_154 m_st_X8_in m_in_X8 m_cd_X8_in) rfl rfl rfl (by decide +kernel) ⟨Nat.le_of_ble_eq_true rfl, Nat.le_of_ble_eq_true rfl⟩) hN hK hP hD hS hA [] [none, none, none, none, none, none, none, none, none, none, none, none, none, none, none, none, none, none, none, none, none, none, none, none, none, none, none, none, none, none, none, none, none, none, none, none, none, none, none, none, none, none, none, none] rfl rfl rfl rfl rfl rfl rfl hl.1 rfl (Nat.le_of_ble_eq_true rfl) dX8_noName_10 ⟨Nat.zero_le _, Nat.zero_le _⟩ (fun H locs hP hD hS => ?_)
  refine lv_if_ne (tgt := 20) hx hb dX8_noName_13 (by decide) (fun cz => ?_) (fun cz => ?_)
  · have h := g_f h cz
    refine lv_iconst (v := 0) hx hb dX8_noName_20 (by decide) ?_
    have h' := Option.some.inj h
    rw [← hQQ]
    exact W.zret (v := (0 : Int32)) hx hb hr rfl (fun t ht hW => ⟨⟨(0 : Int32), (), rfl, by rw [← h'], by rw [← hWQ, ht]; exact hP, va_K.moved hW.alike hK⟩, hS.F ht⟩) hS.2.2 dX8_noName_21
  · have h := g_t h cz
    refine lv_iconst (v := 1) hx hb dX8_noName_16 (by decide) ?_
    refine lv_goto (tgt := 21) hx hb dX8_noName_17 (by decide) ?_
    have h' := Option.some.inj h
    rw [← hQQ]
    exact W.zret (v := (1 : Int32)) hx hb hr rfl (fun t ht hW => ⟨⟨(1 : Int32), (), rfl, by rw [← h'], by rw [← hWQ, ht]; exact hP, va_K.moved hW.alike hK⟩, hS.F ht⟩) hS.2.2 dX8_noName_21
