def f_M_addEdge (N : Nat) (a1 : Int32) (a2 : Int32) (a3 : Int32) (iM36 : Int32) (iM66 : Int32) (iM68 : Int32) (aM58 : Nat → Int32) (aM59 : Nat → Int32) (aM62 : Nat → Int32) (aM67 : Nat → Int32) (aM69 : Nat → Int32) (aM70 : Nat → Int32) (aM71 : Nat → Int32) : Option (Int32 × Int32 × (Nat → Int32) × (Nat → Int32) × (Nat → Int32) × (Nat → Int32)) := if a1 < 0 ∨ 512 ≤ a1.toNatClampNeg then none else ((f_M_leastTo_stands N ((aM67 a1.toNatClampNeg)) a2 a3 iM36 aM58 aM59 aM62).bind fun q14 => ((f_M_thingOf N q14 iM66 aM67).bind fun q17 => (if iM68 < 0 ∨ 4700 ≤ iM68.toNatClampNeg then none else (some (q17.2.1, (iM68 + (1 : Int32)), q17.2.2, (upd aM69 iM68.toNatClampNeg a1), (upd aM70 iM68.toNatClampNeg q17.1), (upd aM71 iM68.toNatClampNeg a2))))))
set_option maxHeartbeats 8000000 in
set_option maxRecDepth 100000 in
theorem c_M_addEdge (l : Launch) (dC : Nat → ClassId) (dI : Nat → Nat → Nat) (cy : Nat → ClassId) (ad : Nat → Nat) (sz : Nat) (N : Nat) (a1 : Int32) (a2 : Int32) (a3 : Int32) (iM : Nat → Int32) (aM : Nat → Nat → Int32) (q : Int32 × Int32 × (Nat → Int32) × (Nat → Int32) × (Nat → Int32) × (Nat → Int32)) (h : f_M_addEdge N a1 a2 a3 (iM 36) (iM 66) (iM 68) (aM 58) (aM 59) (aM 62) (aM 67) (aM 69) (aM 70) (aM 71) = some q) : Met l yX8_addEdge wsX8_addEdge ({ frames := 2, cells := 0, slots := 0, locals := 48 } : Room) (cP (dC, dI) cy [.ref (ad 0), .int a1, .int a2, .int a3] (zzM ad cy iM aM) sz) (cQv (dC, dI) cy (zzM ad cy (us iM [(66, q.1), (68, q.2.1)]) (us aM [(67, q.2.2.1), (69, q.2.2.2.1), (70, q.2.2.2.2.1), (71, q.2.2.2.2.2)])) (va_A (zzM ad cy iM aM) sz)) 0 0 (va_A (zzM ad cy iM aM) sz) := by
  refine Met.ofW (cc := cX8_addEdge) (maxL := 5) (ret := none) (by decide) rfl ?_
  intro p e s m args below meth c s₁ B hml hv
  obtain ⟨hav, hsz, hP, hK, hD0, hN⟩ := hv
  have hx := B.exec
  have hb := B.bytes
  have hr := B.returns
  have hts := atoms_spec (ws := wsX8_addEdge) B.pre
  have hown : s.vm.findClass RX8 = some m.cls := findClass_of_methodNamed B.named
  have hlocks := B.notSynchronized
  subst hsz
  have hD := hD0.self (sz := s.heap.size)
  generalize hAe : va_A (zzM ad cy iM aM) s.heap.size = A at hD ⊢
  have hA : ∀ q : Nat, s.heap.size ≤ q → A q := fun q h => by rw [← hAe]; exact Or.inr h
  have hS : va_S A s.heap s.heap [] := va_S.rf
  generalize hWQ : (zzM ad cy (us iM [(66, q.1), (68, q.2.1)]) (us aM [(67, q.2.2.1), (69, q.2.2.2.1), (70, q.2.2.2.2.1), (71, q.2.2.2.2.2)])) = WQ
  generalize hQQ : MQ below (cQv (dC, dI) cy WQ A) args s 0 0 A = QQ
  have hl := lv_entry ([.ref (ad 0), .int a1, .int a2, .int a3] : List Value) (n := 5) (Nat.le_of_ble_eq_true rfl)
  have hfr := lg_entry_eq m ([.ref (ad 0), .int a1, .int a2, .int a3] : List Value) 5
  rw [← hav] at hfr
  rw [hfr]
  clear hfr hav
  generalize (lg_sl ([.ref (ad 0), .int a1, .int a2, .int a3] : List Value) ++ List.replicate (5 - (lg_sl ([.ref (ad 0), .int a1, .int a2, .int a3] : List Value)).length) Slot.unset).toArray = ls at hl ⊢
  have hl : lv_has ls 5 [(0, .ref (ad 0)), (1, .int a1), (2, .int a2), (3, .int a3)] := hl
  have kf123 := hts _ (List.mem_cons_of_mem _ m_fl_X8_123)
  have ki8 := (fun w h => List.mem_cons_of_mem _ (i_X8 w h) : ∀ w ∈ u_ws RX8 TX8 78, w ∈ wsX8_addEdge)
  have kf117 := hts _ (List.mem_cons_of_mem _ m_fl_X8_117)
  have kf126 := hts _ (List.mem_cons_of_mem _ m_fl_X8_126)
  have kf362 := hts _ (List.mem_cons_of_mem _ m_fl_X8_362)
  have kf129 := hts _ (List.mem_cons_of_mem _ m_fl_X8_129)
  have kf132 := hts _ (List.mem_cons_of_mem _ m_fl_X8_132)
  refine (?_ : ∀ (H : Heap) (locs : List Loc), va_P (dC, dI) vwCl (zzM ad cy iM aM) H → va_D A (zzM ad cy iM aM) → va_S A s.heap H locs → W p l e ({ frames := 2, cells := 0, slots := 0, locals := 48 } : Room) s m args below meth c H locs 0 0 QQ (F0 m 0 ls [])) s.heap [] hP hD hS
  clear hP hD hS
  intro H locs hP hD hS
  unfold f_M_addEdge at h
  refine lv_aload_n hx hb dX8_addEdge_0 rfl (lv_at hl 0 rfl) ?_
  refine lv_aload_n hx hb dX8_addEdge_1 rfl (lv_at hl 0 rfl) ?_
  refine lv_aload_n hx hb dX8_addEdge_2 rfl (lv_at hl 0 rfl) ?_
  refine va_get (D := (dC, dI)) (ci := 8) (v := .ref (ad 36)) (C := RX8) (T := TX8) (N := 78) hx hb hts ki8 hown hK hP 0 rfl rfl 67 (by decide) kf123 (fun _ h9 => h9) rfl dX8_addEdge_3 ?_
  refine lv_iload_n hx hb dX8_addEdge_6 rfl (lv_at hl 1 rfl) ?_
  obtain ⟨g_34, h⟩ := g_n h
  refine va_iald (f := (aM 67)) hx hb hK hP 36 0 rfl rfl g_34 dX8_addEdge_7 ?_
  refine lv_iload_n hx hb dX8_addEdge_8 rfl (lv_at hl 2 rfl) ?_
  refine lv_iload_n hx hb dX8_addEdge_9 rfl (lv_at hl 3 rfl) ?_
  refine lv_aload_n hx hb dX8_addEdge_10 rfl (lv_at hl 0 rfl) ?_
  refine va_get (D := (dC, dI)) (ci := 8) (v := .ref (ad 34)) (C := RX8) (T := TX8) (N := 78) hx hb hts ki8 hown hK hP 0 rfl rfl 62 (by decide) kf117 (fun _ h9 => h9) rfl dX8_addEdge_11 ?_
  obtain ⟨q14, e14, h⟩ := g_b h
  refine callVis (cc := cX8_addEdge) (w1 := zzM ad cy iM aM) (As := [.int (((aM 67) a1.toNatClampNeg)), .int a2, .int a3, .ref (ad 34)]) (rest := [.ref (ad 0)]) ⟨hx, hb, hml, hown, hts⟩ (c_M_leastTo_stands l dC dI cy ad H.size N (((aM 67) a1.toNatClampNeg)) a2 a3 iM aM q14 e14) (cwV 4 hts (goodV m_ml_X8_378 m_im_X8_leastTo m_se_X8_leastTo m_in_X8 m_cd_X8_leastTo) rfl rfl rfl (by decide +kernel) ⟨Nat.le_of_ble_eq_true rfl, Nat.le_of_ble_eq_true rfl⟩) hN hK hP hD hS hA rfl 0 rfl rfl rfl hl.1 rfl (Nat.le_of_ble_eq_true rfl) dX8_addEdge_14 ⟨Nat.zero_le _, Nat.zero_le _⟩ (fun H locs hP hD hS => ?_)
  obtain ⟨q17, e17, h⟩ := g_b h
  refine callVis (cc := cX8_addEdge) (w1 := zzM ad cy (us iM [(66, q17.2.1)]) (us aM [(67, q17.2.2)])) (As := [.int q14]) (rest := []) ⟨hx, hb, hml, hown, hts⟩ (c_M_thingOf l dC dI cy ad H.size N q14 iM aM q17 e17) (cwV 1 hts (goodV m_ml_X8_432 m_im_X8_thingOf m_se_X8_thingOf m_in_X8 m_cd_X8_thingOf) rfl rfl rfl (by decide +kernel) ⟨Nat.le_of_ble_eq_true rfl, Nat.le_of_ble_eq_true rfl⟩) hN hK hP hD hS hA rfl 0 rfl rfl rfl hl.1 rfl (Nat.le_of_ble_eq_true rfl) dX8_addEdge_17 ⟨Nat.zero_le _, Nat.zero_le _⟩ (fun H locs hP hD hS => ?_)
  refine lv_istore (lv' := [(4, .int q17.1), (0, .ref (ad 0)), (1, .int a1), (2, .int a2), (3, .int a3)]) hx hb dX8_addEdge_20 hl (by decide) rfl (fun ls hl => ?_)
  refine lv_aload_n hx hb dX8_addEdge_22 rfl (lv_at hl 1 rfl) ?_
  refine va_get (D := (dC, dI)) (ci := 8) (v := .ref (ad 37)) (C := RX8) (T := TX8) (N := 78) hx hb hts ki8 hown hK hP 0 rfl rfl 69 (by decide) kf126 (fun _ h9 => h9) rfl dX8_addEdge_23 ?_
  refine lv_aload_n hx hb dX8_addEdge_26 rfl (lv_at hl 1 rfl) ?_
  refine va_get (D := (dC, dI)) (ci := 8) (v := .int (iM 68)) (C := RX8) (T := TX8) (N := 78) hx hb hts ki8 hown hK hP 0 rfl rfl 68 (by decide) kf362 (fun _ h9 => h9) rfl dX8_addEdge_27 ?_
  refine lv_iload_n hx hb dX8_addEdge_30 rfl (lv_at hl 2 rfl) ?_
  obtain ⟨g_134, h⟩ := g_n h
  refine va_iast (f := (aM 69)) hx hb hK hP hD hS 37 0 rfl rfl g_134 dX8_addEdge_31 (fun H locs hP hD hS => ?_)
  have hP : va_P (dC, dI) vwCl (zzM ad cy (us iM [(66, q17.2.1)]) (us aM [(67, q17.2.2), (69, (upd (aM 69) (iM 68).toNatClampNeg a1))])) H := Eq.mp (congrArg (fun w => va_P (dC, dI) vwCl w H) (stM_aM69 ad cy (us iM [(66, q17.2.1)]) aM [(67, q17.2.2)] ((upd (aM 69) (iM 68).toNatClampNeg a1)))) hP
  have hD : va_D A (zzM ad cy (us iM [(66, q17.2.1)]) (us aM [(67, q17.2.2), (69, (upd (aM 69) (iM 68).toNatClampNeg a1))])) := Eq.mp (congrArg (fun w => va_D A w) (stM_aM69 ad cy (us iM [(66, q17.2.1)]) aM [(67, q17.2.2)] ((upd (aM 69) (iM 68).toNatClampNeg a1)))) hD
  refine lv_aload_n hx hb dX8_addEdge_32 rfl (lv_at hl 1 rfl) ?_
  refine va_get (D := (dC, dI)) (ci := 8) (v := .ref (ad 38)) (C := RX8) (T := TX8) (N := 78) hx hb hts ki8 hown hK hP 0 rfl rfl 70 (by decide) kf129 (fun _ h9 => h9) rfl dX8_addEdge_33 ?_
  refine lv_aload_n hx hb dX8_addEdge_36 rfl (lv_at hl 1 rfl) ?_
  refine va_get (D := (dC, dI)) (ci := 8) (v := .int (iM 68)) (C := RX8) (T := TX8) (N := 78) hx hb hts ki8 hown hK hP 0 rfl rfl 68 (by decide) kf362 (fun _ h9 => h9) rfl dX8_addEdge_37 ?_
  refine lv_iload hx hb dX8_addEdge_40 (lv_at hl 0 rfl) ?_
  refine va_iast (f := (aM 70)) hx hb hK hP hD hS 38 0 rfl rfl g_134 dX8_addEdge_42 (fun H locs hP hD hS => ?_)
  have hP : va_P (dC, dI) vwCl (zzM ad cy (us iM [(66, q17.2.1)]) (us aM [(67, q17.2.2), (69, (upd (aM 69) (iM 68).toNatClampNeg a1)), (70, (upd (aM 70) (iM 68).toNatClampNeg q17.1))])) H := Eq.mp (congrArg (fun w => va_P (dC, dI) vwCl w H) (stM_aM70 ad cy (us iM [(66, q17.2.1)]) aM [(67, q17.2.2), (69, (upd (aM 69) (iM 68).toNatClampNeg a1))] ((upd (aM 70) (iM 68).toNatClampNeg q17.1)))) hP
  have hD : va_D A (zzM ad cy (us iM [(66, q17.2.1)]) (us aM [(67, q17.2.2), (69, (upd (aM 69) (iM 68).toNatClampNeg a1)), (70, (upd (aM 70) (iM 68).toNatClampNeg q17.1))])) := Eq.mp (congrArg (fun w => va_D A w) (stM_aM70 ad cy (us iM [(66, q17.2.1)]) aM [(67, q17.2.2), (69, (upd (aM 69) (iM 68).toNatClampNeg a1))] ((upd (aM 70) (iM 68).toNatClampNeg q17.1)))) hD
  refine lv_aload_n hx hb dX8_addEdge_43 rfl (lv_at hl 1 rfl) ?_
  refine va_get (D := (dC, dI)) (ci := 8) (v := .ref (ad 39)) (C := RX8) (T := TX8) (N := 78) hx hb hts ki8 hown hK hP 0 rfl rfl 71 (by decide) kf132 (fun _ h9 => h9) rfl dX8_addEdge_44 ?_
  refine lv_aload_n hx hb dX8_addEdge_47 rfl (lv_at hl 1 rfl) ?_
  refine va_get (D := (dC, dI)) (ci := 8) (v := .int (iM 68)) (C := RX8) (T := TX8) (N := 78) hx hb hts ki8 hown hK hP 0 rfl rfl 68 (by decide) kf362 (fun _ h9 => h9) rfl dX8_addEdge_48 ?_
  refine lv_iload_n hx hb dX8_addEdge_51 rfl (lv_at hl 3 rfl) ?_
  refine va_iast (f := (aM 71)) hx hb hK hP hD hS 39 0 rfl rfl g_134 dX8_addEdge_52 (fun H locs hP hD hS => ?_)
  have hP : va_P (dC, dI) vwCl (zzM ad cy (us iM [(66, q17.2.1)]) (us aM [(67, q17.2.2), (69, (upd (aM 69) (iM 68).toNatClampNeg a1)), (70, (upd (aM 70) (iM 68).toNatClampNeg q17.1)), (71, (upd (aM 71) (iM 68).toNatClampNeg a2))])) H := Eq.mp (congrArg (fun w => va_P (dC, dI) vwCl w H) (stM_aM71 ad cy (us iM [(66, q17.2.1)]) aM [(67, q17.2.2), (69, (upd (aM 69) (iM 68).toNatClampNeg a1)), (70, (upd (aM 70) (iM 68).toNatClampNeg q17.1))] ((upd (aM 71) (iM 68).toNatClampNeg a2)))) hP
  have hD : va_D A (zzM ad cy (us iM [(66, q17.2.1)]) (us aM [(67, q17.2.2), (69, (upd (aM 69) (iM 68).toNatClampNeg a1)), (70, (upd (aM 70) (iM 68).toNatClampNeg q17.1)), (71, (upd (aM 71) (iM 68).toNatClampNeg a2))])) := Eq.mp (congrArg (fun w => va_D A w) (stM_aM71 ad cy (us iM [(66, q17.2.1)]) aM [(67, q17.2.2), (69, (upd (aM 69) (iM 68).toNatClampNeg a1)), (70, (upd (aM 70) (iM 68).toNatClampNeg q17.1))] ((upd (aM 71) (iM 68).toNatClampNeg a2)))) hD
  refine lv_aload_n hx hb dX8_addEdge_53 rfl (lv_at hl 1 rfl) ?_
  refine lv_dup hx hb dX8_addEdge_54 rfl ?_
  refine va_get (D := (dC, dI)) (ci := 8) (v := .int (iM 68)) (C := RX8) (T := TX8) (N := 78) hx hb hts ki8 hown hK hP 0 rfl rfl 68 (by decide) kf362 (fun _ h9 => h9) rfl dX8_addEdge_55 ?_
  refine lv_iconst (v := 1) hx hb dX8_addEdge_58 (by decide) ?_
  refine lv_iadd hx hb dX8_addEdge_59 ?_
  refine va_put (D := (dC, dI)) (ci := 8) (v := .int (((iM 68) + (1 : Int32)))) (ty := .int) (C := RX8) (T := TX8) (N := 78) hx hb hts ki8 tyX8 tyX8_ok nmX8 hown hK hP hD hS 0 rfl rfl 68 (by decide) kf362 (fun _ h9 => h9) rfl (by decide +kernel) rfl rfl (Nat.le_of_ble_eq_true rfl) dX8_addEdge_60 (fun H locs hP hD hS => ?_)
  have hP : va_P (dC, dI) vwCl (zzM ad cy (us iM [(66, q17.2.1), (68, ((iM 68) + (1 : Int32)))]) (us aM [(67, q17.2.2), (69, (upd (aM 69) (iM 68).toNatClampNeg a1)), (70, (upd (aM 70) (iM 68).toNatClampNeg q17.1)), (71, (upd (aM 71) (iM 68).toNatClampNeg a2))])) H := Eq.mp (congrArg (fun w => va_P (dC, dI) vwCl w H) (stM_iM68 ad cy iM (us aM [(67, q17.2.2), (69, (upd (aM 69) (iM 68).toNatClampNeg a1)), (70, (upd (aM 70) (iM 68).toNatClampNeg q17.1)), (71, (upd (aM 71) (iM 68).toNatClampNeg a2))]) [(66, q17.2.1)] (((iM 68) + (1 : Int32))))) hP
  have hD : va_D A (zzM ad cy (us iM [(66, q17.2.1), (68, ((iM 68) + (1 : Int32)))]) (us aM [(67, q17.2.2), (69, (upd (aM 69) (iM 68).toNatClampNeg a1)), (70, (upd (aM 70) (iM 68).toNatClampNeg q17.1)), (71, (upd (aM 71) (iM 68).toNatClampNeg a2))])) := Eq.mp (congrArg (fun w => va_D A w) (stM_iM68 ad cy iM (us aM [(67, q17.2.2), (69, (upd (aM 69) (iM 68).toNatClampNeg a1)), (70, (upd (aM 70) (iM 68).toNatClampNeg q17.1)), (71, (upd (aM 71) (iM 68).toNatClampNeg a2))]) [(66, q17.2.1)] (((iM 68) + (1 : Int32))))) hD
  have h' := Option.some.inj h
  rw [← hQQ]
  exact W.vret hx hb hr (fun t ht hW => ⟨⟨(), rfl, trivial, by rw [← hWQ, ← h', ht]; exact hP, va_K.moved hW.alike hK⟩, hS.F ht⟩) hS.2.2 dX8_addEdge_63
