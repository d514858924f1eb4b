set_option maxHeartbeats 8000000 in
set_option maxRecDepth 100000 in
theorem c_W_edgeAt (l : Launch) (dC : Nat → ClassId) (dI : Nat → Nat → Nat) (cy : Nat → ClassId) (ad : Nat → Nat) (sz : Nat) (a1 : Int32) (iW : Nat → Int32) (aW : Nat → Nat → Int32) (q : Int32) (h : f_W_edgeAt a1 (iW 4) (aW 3) = some q) : Met l yX6_edgeAt wsX6_edgeAt ({ frames := 0, cells := 0, slots := 0, locals := 0 } : Room) (cP (dC, dI) cy [.ref (ad 0), .int a1] (zzw ad cy iW aW) sz) (cQi (dC, dI) cy q (zzw ad cy iW aW) (va_A (zzw ad cy iW aW) sz)) 0 0 (va_A (zzw ad cy iW aW) sz) := by
  refine Met.ofW (cc := cX6_edgeAt) (maxL := 2) (ret := (some .int)) (by decide) rfl ?_
  intro p e s m args below meth c s₁ B hml hv
  obtain ⟨hav, hsz, hP, hK, hD0, hN⟩ := hv
  have hx := B.exec
  have hb := B.bytes
  have hr := B.returns
  have hts := atoms_spec (ws := wsX6_edgeAt) B.pre
  have hown : s.vm.findClass RX6 = some m.cls := findClass_of_methodNamed B.named
  have hlocks := B.notSynchronized
  subst hsz
  have hD := hD0.self (sz := s.heap.size)
  generalize hAe : va_A (zzw ad cy iW aW) s.heap.size = A at hD ⊢
  have hA : ∀ q : Nat, s.heap.size ≤ q → A q := fun q h => by rw [← hAe]; exact Or.inr h
  have hS : va_S A s.heap s.heap [] := va_S.rf
  generalize hWQ : (zzw ad cy iW aW) = WQ
  generalize hQQ : MQ below (cQi (dC, dI) cy q WQ A) args s 0 0 A = QQ
  have hl := lv_entry ([.ref (ad 0), .int a1] : List Value) (n := 2) (Nat.le_of_ble_eq_true rfl)
  have hfr := lg_entry_eq m ([.ref (ad 0), .int a1] : List Value) 2
  rw [← hav] at hfr
  rw [hfr]
  clear hfr hav
  generalize (lg_sl ([.ref (ad 0), .int a1] : List Value) ++ List.replicate (2 - (lg_sl ([.ref (ad 0), .int a1] : List Value)).length) Slot.unset).toArray = ls at hl ⊢
  have hl : lv_has ls 2 [(0, .ref (ad 0)), (1, .int a1)] := hl
  have kf26 := hts _ (List.mem_cons_of_mem _ m_fl_X6_26)
  have ki6 := (fun w h => List.mem_cons_of_mem _ (i_X6 w h) : ∀ w ∈ u_ws RX6 TX6 5, w ∈ wsX6_edgeAt)
  have kf18 := hts _ (List.mem_cons_of_mem _ m_fl_X6_18)
  refine (?_ : ∀ (H : Heap) (locs : List Loc), va_P (dC, dI) vwCl (zzw ad cy iW aW) H → va_D A (zzw ad cy iW aW) → va_S A s.heap H locs → W p l e ({ frames := 0, cells := 0, slots := 0, locals := 0 } : Room) s m args below meth c H locs 0 0 QQ (F0 m 0 ls [])) s.heap [] hP hD hS
  clear hP hD hS
  intro H locs hP hD hS
  unfold f_W_edgeAt at h
  refine lv_iload_n hx hb dX6_edgeAt_0 rfl (lv_at hl 1 rfl) ?_
  refine lv_if_lt (tgt := 21) hx hb dX6_edgeAt_1 (by decide) (fun cz => ?_) (fun cz => ?_)
  · have h := g_t h cz
    refine lv_iconst (v := 0) hx hb dX6_edgeAt_21 (by decide) ?_
    have h' := Option.some.inj h
    rw [← hQQ]
    exact W.iret (v := (0 : Int32)) hx hb hr (fun t ht hW => ⟨⟨(0 : Int32), (), rfl, by rw [← h'], by rw [← hWQ, ht]; exact hP, va_K.moved hW.alike hK⟩, hS.F ht⟩) hS.2.2 dX6_edgeAt_22
  · have h := g_f h cz
    refine lv_iload_n hx hb dX6_edgeAt_4 rfl (lv_at hl 1 rfl) ?_
    refine lv_aload_n hx hb dX6_edgeAt_5 rfl (lv_at hl 0 rfl) ?_
    refine va_get (D := (dC, dI)) (ci := 6) (v := .int (iW 4)) (C := RX6) (T := TX6) (N := 5) hx hb hts ki6 hown hK hP 0 rfl rfl 4 (by decide) kf26 (fun _ h9 => h9) rfl dX6_edgeAt_6 ?_
    refine lv_icmp_ge (tgt := 21) hx hb dX6_edgeAt_9 (by decide) (fun cz => ?_) (fun cz => ?_)
    · have h := g_t h cz
      refine lv_iconst (v := 0) hx hb dX6_edgeAt_21 (by decide) ?_
      have h' := Option.some.inj h
      rw [← hQQ]
      exact W.iret (v := (0 : Int32)) hx hb hr (fun t ht hW => ⟨⟨(0 : Int32), (), rfl, by rw [← h'], by rw [← hWQ, ht]; exact hP, va_K.moved hW.alike hK⟩, hS.F ht⟩) hS.2.2 dX6_edgeAt_22
    · have h := g_f h cz
      refine lv_aload_n hx hb dX6_edgeAt_12 rfl (lv_at hl 0 rfl) ?_
      refine va_get (D := (dC, dI)) (ci := 6) (v := .ref (ad 3)) (C := RX6) (T := TX6) (N := 5) hx hb hts ki6 hown hK hP 0 rfl rfl 3 (by decide) kf18 (fun _ h9 => h9) rfl dX6_edgeAt_13 ?_
      refine lv_iload_n hx hb dX6_edgeAt_16 rfl (lv_at hl 1 rfl) ?_
      obtain ⟨g_40, h⟩ := g_n h
      refine va_iald (f := (aW 3)) hx hb hK hP 3 0 rfl rfl g_40 dX6_edgeAt_17 ?_
      refine lv_goto (tgt := 22) hx hb dX6_edgeAt_18 (by decide) ?_
      have h' := Option.some.inj h
      rw [← hQQ]
      exact W.iret (v := ((aW 3) a1.toNatClampNeg)) hx hb hr (fun t ht hW => ⟨⟨((aW 3) a1.toNatClampNeg), (), rfl, by rw [← h'], by rw [← hWQ, ht]; exact hP, va_K.moved hW.alike hK⟩, hS.F ht⟩) hS.2.2 dX6_edgeAt_22
set_option maxHeartbeats 8000000 in
set_option maxRecDepth 100000 in
theorem c_W_role (l : Launch) (dC : Nat → ClassId) (dI : Nat → Nat → Nat) (cy : Nat → ClassId) (ad : Nat → Nat) (sz : Nat) (a1 : Int32) (iW : Nat → Int32) (aW : Nat → Nat → Int32) (q : Int32) (h : f_W_role a1 (iW 4) (aW 3) = some q) : Met l yX6_role wsX6_role ({ frames := 1, cells := 0, slots := 0, locals := 21 } : Room) (cP (dC, dI) cy [.ref (ad 0), .int a1] (zzw ad cy iW aW) sz) (cQi (dC, dI) cy q (zzw ad cy iW aW) (va_A (zzw ad cy iW aW) sz)) 0 0 (va_A (zzw ad cy iW aW) sz) := by
  refine Met.ofW (cc := cX6_role) (maxL := 2) (ret := (some .int)) (by decide) rfl ?_
  intro p e s m args below meth c s₁ B hml hv
  obtain ⟨hav, hsz, hP, hK, hD0, hN⟩ := hv
  have hx := B.exec
  have hb := B.bytes
  have hr := B.returns
  have hts := atoms_spec (ws := wsX6_role) B.pre
  have hown : s.vm.findClass RX6 = some m.cls := findClass_of_methodNamed B.named
  have hlocks := B.notSynchronized
  subst hsz
  have hD := hD0.self (sz := s.heap.size)
  generalize hAe : va_A (zzw ad cy iW aW) s.heap.size = A at hD ⊢
  have hA : ∀ q : Nat, s.heap.size ≤ q → A q := fun q h => by rw [← hAe]; exact Or.inr h
  have hS : va_S A s.heap s.heap [] := va_S.rf
  generalize hWQ : (zzw ad cy iW aW) = WQ
  generalize hQQ : MQ below (cQi (dC, dI) cy q WQ A) args s 0 0 A = QQ
  have hl := lv_entry ([.ref (ad 0), .int a1] : List Value) (n := 2) (Nat.le_of_ble_eq_true rfl)
  have hfr := lg_entry_eq m ([.ref (ad 0), .int a1] : List Value) 2
  rw [← hav] at hfr
  rw [hfr]
  clear hfr hav
  generalize (lg_sl ([.ref (ad 0), .int a1] : List Value) ++ List.replicate (2 - (lg_sl ([.ref (ad 0), .int a1] : List Value)).length) Slot.unset).toArray = ls at hl ⊢
  have hl : lv_has ls 2 [(0, .ref (ad 0)), (1, .int a1)] := hl
  refine (?_ : ∀ (H : Heap) (locs : List Loc), va_P (dC, dI) vwCl (zzw ad cy iW aW) H → va_D A (zzw ad cy iW aW) → va_S A s.heap H locs → W p l e ({ frames := 1, cells := 0, slots := 0, locals := 21 } : Room) s m args below meth c H locs 0 0 QQ (F0 m 0 ls [])) s.heap [] hP hD hS
  clear hP hD hS
  intro H locs hP hD hS
  unfold f_W_role at h
  refine lv_aload_n hx hb dX6_role_0 rfl (lv_at hl 0 rfl) ?_
  refine lv_iload_n hx hb dX6_role_1 rfl (lv_at hl 1 rfl) ?_
  obtain ⟨q2, e2, h⟩ := g_b h
  refine callVis (cc := cX6_role) (w1 := zzw ad cy iW aW) (As := [.int a1]) (rest := []) ⟨hx, hb, hml, hown, hts⟩ (c_W_edgeAt l dC dI cy ad H.size a1 iW aW q2 e2) (cwV 1 hts (goodV m_ml_X6_67 m_im_X6_edgeAt m_se_X6_edgeAt m_in_X6 m_cd_X6_edgeAt) rfl rfl rfl (by decide +kernel) ⟨Nat.le_of_ble_eq_true rfl, Nat.le_of_ble_eq_true rfl⟩) hN hK hP hD hS hA rfl 0 rfl rfl rfl hl.1 rfl (Nat.le_of_ble_eq_true rfl) dX6_role_2 ⟨Nat.zero_le _, Nat.zero_le _⟩ (fun H locs hP hD hS => ?_)
  refine lv_bipush (v := 20) hx hb dX6_role_5 (by decide) ?_
  refine lv_ishr hx hb dX6_role_7 ?_
  have h' := Option.some.inj h
  rw [← hQQ]
  exact W.iret (v := (q2 >>> ((20 : Int32) &&& 31))) hx hb hr (fun t ht hW => ⟨⟨(q2 >>> ((20 : Int32) &&& 31)), (), rfl, by rw [← h'], by rw [← hWQ, ht]; exact hP, va_K.moved hW.alike hK⟩, hS.F ht⟩) hS.2.2 dX6_role_8
set_option maxHeartbeats 8000000 in
set_option maxRecDepth 100000 in
theorem c_W_to (l : Launch) (dC : Nat → ClassId) (dI : Nat → Nat → Nat) (cy : Nat → ClassId) (ad : Nat → Nat) (sz : Nat) (a1 : Int32) (iW : Nat → Int32) (aW : Nat → Nat → Int32) (q : Int32) (h : f_W_to a1 (iW 4) (aW 3) = some q) : Met l yX6_to wsX6_to ({ frames := 1, cells := 0, slots := 0, locals := 21 } : Room) (cP (dC, dI) cy [.ref (ad 0), .int a1] (zzw ad cy iW aW) sz) (cQi (dC, dI) cy q (zzw ad cy iW aW) (va_A (zzw ad cy iW aW) sz)) 0 0 (va_A (zzw ad cy iW aW) sz) := by
  refine Met.ofW (cc := cX6_to) (maxL := 2) (ret := (some .int)) (by decide) rfl ?_
  intro p e s m args below meth c s₁ B hml hv
  obtain ⟨hav, hsz, hP, hK, hD0, hN⟩ := hv
  have hx := B.exec
  have hb := B.bytes
  have hr := B.returns
  have hts := atoms_spec (ws := wsX6_to) B.pre
  have hown : s.vm.findClass RX6 = some m.cls := findClass_of_methodNamed B.named
  have hlocks := B.notSynchronized
  subst hsz
  have hD := hD0.self (sz := s.heap.size)
  generalize hAe : va_A (zzw ad cy iW aW) s.heap.size = A at hD ⊢
  have hA : ∀ q : Nat, s.heap.size ≤ q → A q := fun q h => by rw [← hAe]; exact Or.inr h
  have hS : va_S A s.heap s.heap [] := va_S.rf
  generalize hWQ : (zzw ad cy iW aW) = WQ
  generalize hQQ : MQ below (cQi (dC, dI) cy q WQ A) args s 0 0 A = QQ
  have hl := lv_entry ([.ref (ad 0), .int a1] : List Value) (n := 2) (Nat.le_of_ble_eq_true rfl)
  have hfr := lg_entry_eq m ([.ref (ad 0), .int a1] : List Value) 2
  rw [← hav] at hfr
  rw [hfr]
  clear hfr hav
  generalize (lg_sl ([.ref (ad 0), .int a1] : List Value) ++ List.replicate (2 - (lg_sl ([.ref (ad 0), .int a1] : List Value)).length) Slot.unset).toArray = ls at hl ⊢
  have hl : lv_has ls 2 [(0, .ref (ad 0)), (1, .int a1)] := hl
  refine (?_ : ∀ (H : Heap) (locs : List Loc), va_P (dC, dI) vwCl (zzw ad cy iW aW) H → va_D A (zzw ad cy iW aW) → va_S A s.heap H locs → W p l e ({ frames := 1, cells := 0, slots := 0, locals := 21 } : Room) s m args below meth c H locs 0 0 QQ (F0 m 0 ls [])) s.heap [] hP hD hS
  clear hP hD hS
  intro H locs hP hD hS
  unfold f_W_to at h
  refine lv_aload_n hx hb dX6_to_0 rfl (lv_at hl 0 rfl) ?_
  refine lv_iload_n hx hb dX6_to_1 rfl (lv_at hl 1 rfl) ?_
  obtain ⟨q2, e2, h⟩ := g_b h
  refine callVis (cc := cX6_to) (w1 := zzw ad cy iW aW) (As := [.int a1]) (rest := []) ⟨hx, hb, hml, hown, hts⟩ (c_W_edgeAt l dC dI cy ad H.size a1 iW aW q2 e2) (cwV 1 hts (goodV m_ml_X6_67 m_im_X6_edgeAt m_se_X6_edgeAt m_in_X6 m_cd_X6_edgeAt) rfl rfl rfl (by decide +kernel) ⟨Nat.le_of_ble_eq_true rfl, Nat.le_of_ble_eq_true rfl⟩) hN hK hP hD hS hA rfl 0 rfl rfl rfl hl.1 rfl (Nat.le_of_ble_eq_true rfl) dX6_to_2 ⟨Nat.zero_le _, Nat.zero_le _⟩ (fun H locs hP hD hS => ?_)
  refine lv_bipush (v := 10) hx hb dX6_to_5 (by decide) ?_
  refine lv_ishr hx hb dX6_to_7 ?_
  refine lv_sipush (v := 1023) hx hb dX6_to_8 (by decide) ?_
  refine lv_iand hx hb dX6_to_11 ?_
  have h' := Option.some.inj h
  rw [← hQQ]
  exact W.iret (v := ((q2 >>> ((10 : Int32) &&& 31)) &&& (1023 : Int32))) hx hb hr (fun t ht hW => ⟨⟨((q2 >>> ((10 : Int32) &&& 31)) &&& (1023 : Int32)), (), rfl, by rw [← h'], by rw [← hWQ, ht]; exact hP, va_K.moved hW.alike hK⟩, hS.F ht⟩) hS.2.2 dX6_to_12
set_option maxHeartbeats 8000000 in
set_option maxRecDepth 100000 in
theorem c_W_from (l : Launch) (dC : Nat → ClassId) (dI : Nat → Nat → Nat) (cy : Nat → ClassId) (ad : Nat → Nat) (sz : Nat) (a1 : Int32) (iW : Nat → Int32) (aW : Nat → Nat → Int32) (q : Int32) (h : f_W_from a1 (iW 4) (aW 3) = some q) : Met l yX6_from wsX6_from ({ frames := 1, cells := 0, slots := 0, locals := 21 } : Room) (cP (dC, dI) cy [.ref (ad 0), .int a1] (zzw ad cy iW aW) sz) (cQi (dC, dI) cy q (zzw ad cy iW aW) (va_A (zzw ad cy iW aW) sz)) 0 0 (va_A (zzw ad cy iW aW) sz) := by
  refine Met.ofW (cc := cX6_from) (maxL := 2) (ret := (some .int)) (by decide) rfl ?_
  intro p e s m args below meth c s₁ B hml hv
  obtain ⟨hav, hsz, hP, hK, hD0, hN⟩ := hv
  have hx := B.exec
  have hb := B.bytes
  have hr := B.returns
  have hts := atoms_spec (ws := wsX6_from) B.pre
  have hown : s.vm.findClass RX6 = some m.cls := findClass_of_methodNamed B.named
  have hlocks := B.notSynchronized
  subst hsz
  have hD := hD0.self (sz := s.heap.size)
  generalize hAe : va_A (zzw ad cy iW aW) s.heap.size = A at hD ⊢
  have hA : ∀ q : Nat, s.heap.size ≤ q → A q := fun q h => by rw [← hAe]; exact Or.inr h
  have hS : va_S A s.heap s.heap [] := va_S.rf
  generalize hWQ : (zzw ad cy iW aW) = WQ
  generalize hQQ : MQ below (cQi (dC, dI) cy q WQ A) args s 0 0 A = QQ
  have hl := lv_entry ([.ref (ad 0), .int a1] : List Value) (n := 2) (Nat.le_of_ble_eq_true rfl)
  have hfr := lg_entry_eq m ([.ref (ad 0), .int a1] : List Value) 2
  rw [← hav] at hfr
  rw [hfr]
  clear hfr hav
  generalize (lg_sl ([.ref (ad 0), .int a1] : List Value) ++ List.replicate (2 - (lg_sl ([.ref (ad 0), .int a1] : List Value)).length) Slot.unset).toArray = ls at hl ⊢
  have hl : lv_has ls 2 [(0, .ref (ad 0)), (1, .int a1)] := hl
  refine (?_ : ∀ (H : Heap) (locs : List Loc), va_P (dC, dI) vwCl (zzw ad cy iW aW) H → va_D A (zzw ad cy iW aW) → va_S A s.heap H locs → W p l e ({ frames := 1, cells := 0, slots := 0, locals := 21 } : Room) s m args below meth c H locs 0 0 QQ (F0 m 0 ls [])) s.heap [] hP hD hS
  clear hP hD hS
  intro H locs hP hD hS
  unfold f_W_from at h
  refine lv_aload_n hx hb dX6_from_0 rfl (lv_at hl 0 rfl) ?_
  refine lv_iload_n hx hb dX6_from_1 rfl (lv_at hl 1 rfl) ?_
  obtain ⟨q2, e2, h⟩ := g_b h
  refine callVis (cc := cX6_from) (w1 := zzw ad cy iW aW) (As := [.int a1]) (rest := []) ⟨hx, hb, hml, hown, hts⟩ (c_W_edgeAt l dC dI cy ad H.size a1 iW aW q2 e2) (cwV 1 hts (goodV m_ml_X6_67 m_im_X6_edgeAt m_se_X6_edgeAt m_in_X6 m_cd_X6_edgeAt) rfl rfl rfl (by decide +kernel) ⟨Nat.le_of_ble_eq_true rfl, Nat.le_of_ble_eq_true rfl⟩) hN hK hP hD hS hA rfl 0 rfl rfl rfl hl.1 rfl (Nat.le_of_ble_eq_true rfl) dX6_from_2 ⟨Nat.zero_le _, Nat.zero_le _⟩ (fun H locs hP hD hS => ?_)
  refine lv_sipush (v := 1023) hx hb dX6_from_5 (by decide) ?_
  refine lv_iand hx hb dX6_from_8 ?_
  have h' := Option.some.inj h
  rw [← hQQ]
  exact W.iret (v := (q2 &&& (1023 : Int32))) hx hb hr (fun t ht hW => ⟨⟨(q2 &&& (1023 : Int32)), (), rfl, by rw [← h'], by rw [← hWQ, ht]; exact hP, va_K.moved hW.alike hK⟩, hS.F ht⟩) hS.2.2 dX6_from_9
set_option maxHeartbeats 8000000 in
set_option maxRecDepth 100000 in
theorem c_X_edge (l : Launch) (dC : Nat → ClassId) (dI : Nat → Nat → Nat) (cy : Nat → ClassId) (ad : Nat → Nat) (sz : Nat) (rb : Nat) (rc : Nat) (pb : Nat) (a1 : Int32) (a2 : Int32) (iX : Nat → Int32) (iR : Nat → Int32) (iT : Nat → Int32) (wT : Int64) (tx : Nat → Int32) (iB : Nat → Int32) (lB : Nat → Nat → Int64) (aB : Nat → Nat → Int32) (iC : Nat → Int32) (aC : Nat → Nat → Int32) (iD : Nat → Int32) (lD : Nat → Nat → Int64) (aD : Nat → Nat → Int32) (iE : Nat → Int32) (aE : Nat → Nat → Int32) (iK : Nat → Int32) (lK : Nat → Nat → Int64) (aK : Nat → Nat → Int32) (iW : Nat → Int32) (aW : Nat → Nat → Int32) (iP : Nat → Int32) (aP : Nat → Nat → Int32) (q : Int32) (h : f_X_edge a1 a2 (iX 5) (iW 4) (aW 3) = some q) : Met l yX7_edge wsX7_edge ({ frames := 2, cells := 0, slots := 0, locals := 42 } : Room) (cP (dC, dI) cy [.ref (ad 0), .int a1, .int a2] (zzX ad cy rb rc (ad 4) (ad 11) pb (ad 4) (ad 20) iX iR iT wT tx iB lB aB iC aC iD lD aD iE aE iK lK aK iW aW iP aP) sz) (cQi (dC, dI) cy q (zzX ad cy rb rc (ad 4) (ad 11) pb (ad 4) (ad 20) iX iR iT wT tx iB lB aB iC aC iD lD aD iE aE iK lK aK iW aW iP aP) (va_A (zzX ad cy rb rc (ad 4) (ad 11) pb (ad 4) (ad 20) iX iR iT wT tx iB lB aB iC aC iD lD aD iE aE iK lK aK iW aW iP aP) sz)) 0 0 (va_A (zzX ad cy rb rc (ad 4) (ad 11) pb (ad 4) (ad 20) iX iR iT wT tx iB lB aB iC aC iD lD aD iE aE iK lK aK iW aW iP aP) sz) := by
  refine Met.ofW (cc := cX7_edge) (maxL := 3) (ret := (some .int)) (by decide) rfl ?_
  intro p e s m args below meth c s₁ B hml hv
  obtain ⟨hav, hsz, hP, hK, hD0, hN⟩ := hv
  have hx := B.exec
  have hb := B.bytes
  have hr := B.returns
  have hts := atoms_spec (ws := wsX7_edge) B.pre
  have hown : s.vm.findClass RX7 = some m.cls := findClass_of_methodNamed B.named
  have hlocks := B.notSynchronized
  subst hsz
  have hD := hD0.self (sz := s.heap.size)
  generalize hAe : va_A (zzX ad cy rb rc (ad 4) (ad 11) pb (ad 4) (ad 20) iX iR iT wT tx iB lB aB iC aC iD lD aD iE aE iK lK aK iW aW iP aP) s.heap.size = A at hD ⊢
  have hA : ∀ q : Nat, s.heap.size ≤ q → A q := fun q h => by rw [← hAe]; exact Or.inr h
  have hS : va_S A s.heap s.heap [] := va_S.rf
  generalize hWQ : (zzX ad cy rb rc (ad 4) (ad 11) pb (ad 4) (ad 20) iX iR iT wT tx iB lB aB iC aC iD lD aD iE aE iK lK aK iW aW iP aP) = WQ
  generalize hQQ : MQ below (cQi (dC, dI) cy q WQ A) args s 0 0 A = QQ
  have hl := lv_entry ([.ref (ad 0), .int a1, .int a2] : List Value) (n := 3) (Nat.le_of_ble_eq_true rfl)
  have hfr := lg_entry_eq m ([.ref (ad 0), .int a1, .int a2] : List Value) 3
  rw [← hav] at hfr
  rw [hfr]
  clear hfr hav
  generalize (lg_sl ([.ref (ad 0), .int a1, .int a2] : List Value) ++ List.replicate (3 - (lg_sl ([.ref (ad 0), .int a1, .int a2] : List Value)).length) Slot.unset).toArray = ls at hl ⊢
  have hl : lv_has ls 3 [(0, .ref (ad 0)), (1, .int a1), (2, .int a2)] := hl
  have kf70 := hts _ (List.mem_cons_of_mem _ m_fl_X7_70)
  have ki7 := (fun w h => List.mem_cons_of_mem _ (i_X7 w h) : ∀ w ∈ u_ws RX7 TX7 9, w ∈ wsX7_edge)
  have kf44 := hts _ (List.mem_cons_of_mem _ m_fl_X7_44)
  have kf127 := hts _ (List.mem_cons_of_mem _ m_fl_X7_127)
  have ki6 := (fun w h => List.mem_cons_of_mem _ (i_X6 w h) : ∀ w ∈ u_ws RX6 TX6 5, w ∈ wsX7_edge)
  refine (?_ : ∀ (H : Heap) (locs : List Loc), va_P (dC, dI) vwCl (zzX ad cy rb rc (ad 4) (ad 11) pb (ad 4) (ad 20) iX iR iT wT tx iB lB aB iC aC iD lD aD iE aE iK lK aK iW aW iP aP) H → va_D A (zzX ad cy rb rc (ad 4) (ad 11) pb (ad 4) (ad 20) iX iR iT wT tx iB lB aB iC aC iD lD aD iE aE iK lK aK iW aW iP aP) → va_S A s.heap H locs → W p l e ({ frames := 2, cells := 0, slots := 0, locals := 42 } : Room) s m args below meth c H locs 0 0 QQ (F0 m 0 ls [])) s.heap [] hP hD hS
  clear hP hD hS
  intro H locs hP hD hS
  unfold f_X_edge at h
  refine lv_aload_n hx hb dX7_edge_0 rfl (lv_at hl 0 rfl) ?_
  refine va_get (D := (dC, dI)) (ci := 7) (v := .int (iX 5)) (C := RX7) (T := TX7) (N := 9) hx hb hts ki7 hown hK hP 0 rfl rfl 5 (by decide) kf70 (fun _ h9 => h9) rfl dX7_edge_1 ?_
  refine lv_if_ne (tgt := 10) hx hb dX7_edge_4 (by decide) (fun cz => ?_) (fun cz => ?_)
  · have h := g_f h cz
    refine lv_iload_n hx hb dX7_edge_10 rfl (lv_at hl 1 rfl) ?_
    refine lv_if_lt (tgt := 25) hx hb dX7_edge_11 (by decide) (fun cz => ?_) (fun cz => ?_)
    · have h := g_t h cz
      refine lv_bipush (v := (-102)) hx hb dX7_edge_25 (by decide) ?_
      have h' := Option.some.inj h
      rw [← hQQ]
      exact W.iret (v := (-102 : Int32)) hx hb hr (fun t ht hW => ⟨⟨(-102 : Int32), (), rfl, by rw [← h'], by rw [← hWQ, ht]; exact hP, va_K.moved hW.alike hK⟩, hS.F ht⟩) hS.2.2 dX7_edge_27
    · have h := g_f h cz
      refine lv_iload_n hx hb dX7_edge_14 rfl (lv_at hl 1 rfl) ?_
      refine lv_aload_n hx hb dX7_edge_15 rfl (lv_at hl 0 rfl) ?_
      refine va_get (D := (dC, dI)) (ci := 7) (v := .ref (ad 47)) (C := RX7) (T := TX7) (N := 9) hx hb hts ki7 hown hK hP 0 rfl rfl 7 (by decide) kf44 (fun _ h9 => h9) rfl dX7_edge_16 ?_
      refine va_get (D := (dC, dI)) (ci := 6) (v := .int (iW 4)) (C := RX6) (T := TX6) (N := 5) hx hb hts ki6 hown hK hP 47 rfl rfl 4 (by decide) kf127 (fun _ h9 => h9) rfl dX7_edge_19 ?_
      refine lv_icmp_lt (tgt := 28) hx hb dX7_edge_22 (by decide) (fun cz => ?_) (fun cz => ?_)
      · have h := g_t h cz
        refine lv_iload_n hx hb dX7_edge_28 rfl (lv_at hl 2 rfl) ?_
        rcases Decidable.em (a2 = (0 : Int32)) with c0 | c0
        · have h := g_t h c0
          refine lv_tableIn (off := 27) (tgt := 56) hx hb dX7_edge_29 (by rw [c0]; decide) (by rw [c0]; decide) (by rw [c0]; rfl) (by decide) ?_
          refine lv_aload_n hx hb dX7_edge_56 rfl (lv_at hl 0 rfl) ?_
          refine va_get (D := (dC, dI)) (ci := 7) (v := .ref (ad 47)) (C := RX7) (T := TX7) (N := 9) hx hb hts ki7 hown hK hP 0 rfl rfl 7 (by decide) kf44 (fun _ h9 => h9) rfl dX7_edge_57 ?_
          refine lv_iload_n hx hb dX7_edge_60 rfl (lv_at hl 1 rfl) ?_
          obtain ⟨q61, e61, h⟩ := g_b h
          refine callVi (cc := cX7_edge) (ws' := zzX ad cy rb rc (ad 4) (ad 11) pb (ad 4) (ad 20) iX iR iT wT tx iB lB aB iC aC iD lD aD iE aE iK lK aK iW aW iP aP) (As := [.int a1]) (rest := []) ⟨hx, hb, hml, hown, hts⟩ (c_W_from l dC dI cy (fun i => ad (i + 47)) H.size a1 iW aW q61 e61) (cwV 1 hts (goodV m_ml_X7_183 m_im_X6_from m_se_X6_from m_in_X6 m_cd_X6_from) rfl rfl rfl (by decide +kernel) ⟨Nat.le_of_ble_eq_true rfl, Nat.le_of_ble_eq_true rfl⟩) hN hK hP hD hS hA [47, 48, 49, 50] [none, none, none, none, none, none, none, none, none, none, none, none, none, none, none, none, none, none, none, none, none, none, none, none, none, none, none, none, none, none, none, none, none, none, none, none, none, none, none, none, none, none, none, none, none, none, none, some 0, some 1, some 2, some 3, none, none, none] rfl rfl rfl rfl rfl rfl 47 rfl rfl rfl hl.1 rfl (Nat.le_of_ble_eq_true rfl) dX7_edge_61 ⟨Nat.zero_le _, Nat.zero_le _⟩ (fun H locs hP hD hS => ?_)
          have h' := Option.some.inj h
          rw [← hQQ]
          exact W.iret (v := q61) hx hb hr (fun t ht hW => ⟨⟨q61, (), rfl, by rw [← h'], by rw [← hWQ, ht]; exact hP, va_K.moved hW.alike hK⟩, hS.F ht⟩) hS.2.2 dX7_edge_64
        · have h := g_f h c0
          rcases Decidable.em (a2 = (1 : Int32)) with c1 | c1
          · have h := g_t h c1
            refine lv_tableIn (off := 36) (tgt := 65) hx hb dX7_edge_29 (by rw [c1]; decide) (by rw [c1]; decide) (by rw [c1]; rfl) (by decide) ?_
            refine lv_aload_n hx hb dX7_edge_65 rfl (lv_at hl 0 rfl) ?_
            refine va_get (D := (dC, dI)) (ci := 7) (v := .ref (ad 47)) (C := RX7) (T := TX7) (N := 9) hx hb hts ki7 hown hK hP 0 rfl rfl 7 (by decide) kf44 (fun _ h9 => h9) rfl dX7_edge_66 ?_
            refine lv_iload_n hx hb dX7_edge_69 rfl (lv_at hl 1 rfl) ?_
            obtain ⟨q70, e70, h⟩ := g_b h
            refine callVi (cc := cX7_edge) (ws' := zzX ad cy rb rc (ad 4) (ad 11) pb (ad 4) (ad 20) iX iR iT wT tx iB lB aB iC aC iD lD aD iE aE iK lK aK iW aW iP aP) (As := [.int a1]) (rest := []) ⟨hx, hb, hml, hown, hts⟩ (c_W_to l dC dI cy (fun i => ad (i + 47)) H.size a1 iW aW q70 e70) (cwV 1 hts (goodV m_ml_X7_186 m_im_X6_to m_se_X6_to m_in_X6 m_cd_X6_to) rfl rfl rfl (by decide +kernel) ⟨Nat.le_of_ble_eq_true rfl, Nat.le_of_ble_eq_true rfl⟩) hN hK hP hD hS hA [47, 48, 49, 50] [none, none, none, none, none, none, none, none, none, none, none, none, none, none, none, none, none, none, none, none, none, none, none, none, none, none, none, none, none, none, none, none, none, none, none, none, none, none, none, none, none, none, none, none, none, none, none, some 0, some 1, some 2, some 3, none, none, none] rfl rfl rfl rfl rfl rfl 47 rfl rfl rfl hl.1 rfl (Nat.le_of_ble_eq_true rfl) dX7_edge_70 ⟨Nat.zero_le _, Nat.zero_le _⟩ (fun H locs hP hD hS => ?_)
            have h' := Option.some.inj h
            rw [← hQQ]
            exact W.iret (v := q70) hx hb hr (fun t ht hW => ⟨⟨q70, (), rfl, by rw [← h'], by rw [← hWQ, ht]; exact hP, va_K.moved hW.alike hK⟩, hS.F ht⟩) hS.2.2 dX7_edge_73
          · have h := g_f h c1
            rcases Decidable.em (a2 = (2 : Int32)) with c2 | c2
            · have h := g_t h c2
              refine lv_tableIn (off := 45) (tgt := 74) hx hb dX7_edge_29 (by rw [c2]; decide) (by rw [c2]; decide) (by rw [c2]; rfl) (by decide) ?_
              refine lv_aload_n hx hb dX7_edge_74 rfl (lv_at hl 0 rfl) ?_
              refine va_get (D := (dC, dI)) (ci := 7) (v := .ref (ad 47)) (C := RX7) (T := TX7) (N := 9) hx hb hts ki7 hown hK hP 0 rfl rfl 7 (by decide) kf44 (fun _ h9 => h9) rfl dX7_edge_75 ?_
              refine lv_iload_n hx hb dX7_edge_78 rfl (lv_at hl 1 rfl) ?_
              obtain ⟨q79, e79, h⟩ := g_b h
              refine callVi (cc := cX7_edge) (ws' := zzX ad cy rb rc (ad 4) (ad 11) pb (ad 4) (ad 20) iX iR iT wT tx iB lB aB iC aC iD lD aD iE aE iK lK aK iW aW iP aP) (As := [.int a1]) (rest := []) ⟨hx, hb, hml, hown, hts⟩ (c_W_role l dC dI cy (fun i => ad (i + 47)) H.size a1 iW aW q79 e79) (cwV 1 hts (goodV m_ml_X7_189 m_im_X6_role m_se_X6_role m_in_X6 m_cd_X6_role) rfl rfl rfl (by decide +kernel) ⟨Nat.le_of_ble_eq_true rfl, Nat.le_of_ble_eq_true rfl⟩) hN hK hP hD hS hA [47, 48, 49, 50] [none, none, none, none, none, none, none, none, none, none, none, none, none, none, none, none, none, none, none, none, none, none, none, none, none, none, none, none, none, none, none, none, none, none, none, none, none, none, none, none, none, none, none, none, none, none, none, some 0, some 1, some 2, some 3, none, none, none] rfl rfl rfl rfl rfl rfl 47 rfl rfl rfl hl.1 rfl (Nat.le_of_ble_eq_true rfl) dX7_edge_79 ⟨Nat.zero_le _, Nat.zero_le _⟩ (fun H locs hP hD hS => ?_)
              have h' := Option.some.inj h
              rw [← hQQ]
              exact W.iret (v := q79) hx hb hr (fun t ht hW => ⟨⟨q79, (), rfl, by rw [← h'], by rw [← hWQ, ht]; exact hP, va_K.moved hW.alike hK⟩, hS.F ht⟩) hS.2.2 dX7_edge_82
            · have h := g_f h c2
              refine lv_tableOut (tgt := 83) hx hb dX7_edge_29 (by have z0 := tne (n := 0) (by decide) c0; have z1 := tne (n := 1) (by decide) c1; have z2 := tne (n := 2) (by decide) c2; omega) (by decide) ?_
              refine lv_bipush (v := (-103)) hx hb dX7_edge_83 (by decide) ?_
              have h' := Option.some.inj h
              rw [← hQQ]
              exact W.iret (v := (-103 : Int32)) hx hb hr (fun t ht hW => ⟨⟨(-103 : Int32), (), rfl, by rw [← h'], by rw [← hWQ, ht]; exact hP, va_K.moved hW.alike hK⟩, hS.F ht⟩) hS.2.2 dX7_edge_85
      · have h := g_f h cz
        refine lv_bipush (v := (-102)) hx hb dX7_edge_25 (by decide) ?_
        have h' := Option.some.inj h
        rw [← hQQ]
        exact W.iret (v := (-102 : Int32)) hx hb hr (fun t ht hW => ⟨⟨(-102 : Int32), (), rfl, by rw [← h'], by rw [← hWQ, ht]; exact hP, va_K.moved hW.alike hK⟩, hS.F ht⟩) hS.2.2 dX7_edge_27
  · have h := g_t h cz
    refine lv_bipush (v := (-101)) hx hb dX7_edge_7 (by decide) ?_
    have h' := Option.some.inj h
    rw [← hQQ]
    exact W.iret (v := (-101 : Int32)) hx hb hr (fun t ht hW => ⟨⟨(-101 : Int32), (), rfl, by rw [← h'], by rw [← hWQ, ht]; exact hP, va_K.moved hW.alike hK⟩, hS.F ht⟩) hS.2.2 dX7_edge_9
set_option maxHeartbeats 8000000 in
set_option maxRecDepth 100000 in
theorem c_K_takeFair_trial (l : Launch) (dC : Nat → ClassId) (dI : Nat → Nat → Nat) (cy : Nat → ClassId) (ad : Nat → Nat) (sz : Nat) (N : Nat) (a1 : Int32) (iK : Nat → Int32) (lK : Nat → Nat → Int64) (aK : Nat → Nat → Int32) (iB : Nat → Int32) (lB : Nat → Nat → Int64) (aB : Nat → Nat → Int32) (iC : Nat → Int32) (aC : Nat → Nat → Int32) (q : (Nat → Int64)) (h : f_K_takeFair_trial N a1 (iB 9) (aB 8) (iK 2) (lK 3) (lK 10) = some q) : Met l yX2_takeFair wsX2_takeFair ({ frames := 2, cells := 0, slots := 0, locals := 48 } : Room) (cP (dC, dI) cy [.ref (ad 0), .int a1, .ref (ad 7)] (zzK ad cy (ad 11) (ad 18) iK lK aK iB lB aB iC aC) sz) (cQv (dC, dI) cy (zzK ad cy (ad 11) (ad 18) iK (us lK [(10, q)]) aK iB lB aB iC aC) (va_A (zzK ad cy (ad 11) (ad 18) iK lK aK iB lB aB iC aC) sz)) 0 0 (va_A (zzK ad cy (ad 11) (ad 18) iK lK aK iB lB aB iC aC) sz) := by
  refine Met.ofW (cc := cX2_takeFair) (maxL := 8) (ret := none) (by decide) rfl ?_
  intro p e s m args below meth c s₁ B hml hv
  obtain ⟨hav, hsz, hP, hK, hD0, hN⟩ := hv
  have hx := B.exec
  have hb := B.bytes
  have hr := B.returns
  have hts := atoms_spec (ws := wsX2_takeFair) B.pre
  have hown : s.vm.findClass RX2 = some m.cls := findClass_of_methodNamed B.named
  have hlocks := B.notSynchronized
  subst hsz
  have hD := hD0.self (sz := s.heap.size)
  generalize hAe : va_A (zzK ad cy (ad 11) (ad 18) iK lK aK iB lB aB iC aC) s.heap.size = A at hD ⊢
  have hA : ∀ q : Nat, s.heap.size ≤ q → A q := fun q h => by rw [← hAe]; exact Or.inr h
  have hS : va_S A s.heap s.heap [] := va_S.rf
  generalize hWQ : (zzK ad cy (ad 11) (ad 18) iK (us lK [(10, q)]) aK iB lB aB iC aC) = WQ
  generalize hQQ : MQ below (cQv (dC, dI) cy WQ A) args s 0 0 A = QQ
  have hl := lv_entry ([.ref (ad 0), .int a1, .ref (ad 7)] : List Value) (n := 8) (Nat.le_of_ble_eq_true rfl)
  have hfr := lg_entry_eq m ([.ref (ad 0), .int a1, .ref (ad 7)] : List Value) 8
  rw [← hav] at hfr
  rw [hfr]
  clear hfr hav
  generalize (lg_sl ([.ref (ad 0), .int a1, .ref (ad 7)] : List Value) ++ List.replicate (8 - (lg_sl ([.ref (ad 0), .int a1, .ref (ad 7)] : List Value)).length) Slot.unset).toArray = ls at hl ⊢
  have hl : lv_has ls 8 [(0, .ref (ad 0)), (1, .int a1), (2, .ref (ad 7))] := hl
  have kf44 := hts _ (List.mem_cons_of_mem _ m_fl_X2_44)
  have ki2 := (fun w h => List.mem_cons_of_mem _ (i_X2 w h) : ∀ w ∈ u_ws RX2 TX2 15, w ∈ wsX2_takeFair)
  have kf93 := hts _ (List.mem_cons_of_mem _ m_fl_X2_93)
  have ki0 := (fun w h => List.mem_cons_of_mem _ (i_X0 w h) : ∀ w ∈ u_ws RX0 TX0 15, w ∈ wsX2_takeFair)
  have kc88 := hts _ (List.mem_cons_of_mem _ m_kl_X2_88)
  have kf67 := hts _ (List.mem_cons_of_mem _ m_fl_X2_67)
  refine (?_ : ∀ (H : Heap) (locs : List Loc), va_P (dC, dI) vwCl (zzK ad cy (ad 11) (ad 18) iK lK aK iB lB aB iC aC) H → va_D A (zzK ad cy (ad 11) (ad 18) iK lK aK iB lB aB iC aC) → va_S A s.heap H locs → W p l e ({ frames := 2, cells := 0, slots := 0, locals := 48 } : Room) s m args below meth c H locs 0 0 QQ (F0 m 0 ls [])) s.heap [] hP hD hS
  clear hP hD hS
  have B52 : ∀ (n : Nat) (v1 : Int32) (v3 : Int32) (x_lK10 : Nat → Int64) (k2 : Int32 → (Nat → Int64) → Option ((Nat → Int64))) (hk2 : ∀ (v3' : Int32) (x_lK10' : Nat → Int64) (H : Heap) (locs : List Loc) (ls : Array Slot), k2 v3' x_lK10' = some q → va_P (dC, dI) vwCl (zzK ad cy (ad 11) (ad 18) iK (us lK [(10, x_lK10')]) aK iB lB aB iC aC) H → va_D A (zzK ad cy (ad 11) (ad 18) iK (us lK [(10, x_lK10')]) aK iB lB aB iC aC) → va_S A s.heap H locs → lv_has ls 8 [(0, .ref (ad 0)), (1, .int v1), (2, .ref (ad 7)), (3, .int v3')] → W p l e ({ frames := 2, cells := 0, slots := 0, locals := 48 } : Room) s m args below meth c H locs 0 0 QQ (F0 m 2 ls [])) (v5 : Int64) (v7 : Int32) (H : Heap) (locs : List Loc) (ls : Array Slot), f_K_takeFair_trial_52 N (iB 9) (aB 8) (iK 2) (lK 3) (lK 10) k2 v1 v3 x_lK10 n v5 v7 = some q → va_P (dC, dI) vwCl (zzK ad cy (ad 11) (ad 18) iK (us lK [(10, x_lK10)]) aK iB lB aB iC aC) H → va_D A (zzK ad cy (ad 11) (ad 18) iK (us lK [(10, x_lK10)]) aK iB lB aB iC aC) → va_S A s.heap H locs → lv_has ls 8 [(0, .ref (ad 0)), (1, .int v1), (2, .ref (ad 7)), (3, .int v3), (5, .long v5), (7, .int v7)] → W p l e ({ frames := 2, cells := 0, slots := 0, locals := 48 } : Room) s m args below meth c H locs 0 0 QQ (F0 m 52 ls []) := by
    intro n
    induction n with
    | zero =>
      intro v1 v3 x_lK10 k2 hk2 v5 v7 H locs ls h hP hD hS hl
      rw [f_K_takeFair_trial_52] at h
      cases h
    | succ n ih =>
      intro v1 v3 x_lK10 k2 hk2 v5 v7 H locs ls h hP hD hS hl
      rw [f_K_takeFair_trial_52] at h
      refine lv_iload hx hb dX2_takeFair_52 (lv_at hl 5 rfl) ?_
      refine lv_aload_n hx hb dX2_takeFair_54 rfl (lv_at hl 0 rfl) ?_
      refine va_get (D := (dC, dI)) (ci := 2) (v := .ref (ad 11)) (C := RX2) (T := TX2) (N := 15) hx hb hts ki2 hown hK hP 0 rfl rfl 0 (by decide) kf44 (fun _ h9 => h9) rfl dX2_takeFair_55 ?_
      refine va_get (D := (dC, dI)) (ci := 0) (v := .int (iB 9)) (C := RX0) (T := TX0) (N := 15) hx hb hts ki0 hown hK hP 11 rfl rfl 9 (by decide) kf93 (fun _ h9 => h9) rfl dX2_takeFair_58 ?_
      refine lv_icmp_ge (tgt := 103) hx hb dX2_takeFair_61 (by decide) (fun cz => ?_) (fun cz => ?_)
      · have h := g_t h cz
        refine lv_aload_n hx hb dX2_takeFair_103 rfl (lv_at hl 2 rfl) ?_
        refine lv_iload_n hx hb dX2_takeFair_104 rfl (lv_at hl 3 rfl) ?_
        refine lv_lload hx hb dX2_takeFair_105 (lv_at hl 4 rfl) ?_
        obtain ⟨g_22, h⟩ := g_n h
        refine va_last (f := x_lK10) hx hb hK hP hD hS 7 2 rfl rfl g_22 dX2_takeFair_107 (fun H locs hP hD hS => ?_)
        have hP : va_P (dC, dI) vwCl (zzK ad cy (ad 11) (ad 18) iK (us lK [(10, (vp_updL x_lK10 v3.toNatClampNeg v5))]) aK iB lB aB iC aC) H := Eq.mp (congrArg (fun w => va_P (dC, dI) vwCl w H) (stK_lK10 ad cy (ad 11) (ad 18) iK lK aK iB lB aB iC aC [(10, x_lK10)] ((vp_updL x_lK10 v3.toNatClampNeg v5)))) hP
        have hD : va_D A (zzK ad cy (ad 11) (ad 18) iK (us lK [(10, (vp_updL x_lK10 v3.toNatClampNeg v5))]) aK iB lB aB iC aC) := Eq.mp (congrArg (fun w => va_D A w) (stK_lK10 ad cy (ad 11) (ad 18) iK lK aK iB lB aB iC aC [(10, x_lK10)] ((vp_updL x_lK10 v3.toNatClampNeg v5)))) hD
        refine lv_iinc (v := (v3 + (1 : Int32))) (lv' := [(3, .int ((v3 + (1 : Int32)))), (0, .ref (ad 0)), (1, .int v1), (2, .ref (ad 7)), (5, .long v5), (7, .int v7)]) hx hb dX2_takeFair_108 hl (k := 3) rfl rfl (by decide) rfl (fun ls hl => ?_)
        refine lv_goto (tgt := 2) hx hb dX2_takeFair_111 (by decide) ?_
        exact hk2 ((v3 + (1 : Int32))) ((vp_updL x_lK10 v3.toNatClampNeg v5)) H locs ls h hP hD hS (lv_sub hl [1, 2, 3, 0] rfl)
      · have h := g_f h cz
        refine lv_iload_n hx hb dX2_takeFair_64 rfl (lv_at hl 1 rfl) ?_
        refine lv_iload hx hb dX2_takeFair_65 (lv_at hl 5 rfl) ?_
        refine lv_ishr hx hb dX2_takeFair_67 ?_
        refine lv_iconst (v := 1) hx hb dX2_takeFair_68 (by decide) ?_
        refine lv_iand hx hb dX2_takeFair_69 ?_
        refine lv_iconst (v := 1) hx hb dX2_takeFair_70 (by decide) ?_
        refine lv_icmp_ne (tgt := 97) hx hb dX2_takeFair_71 (by decide) (fun cz => ?_) (fun cz => ?_)
        · have h := g_f h cz
          refine lv_iinc (v := (v7 + (1 : Int32))) (lv' := [(7, .int ((v7 + (1 : Int32)))), (0, .ref (ad 0)), (1, .int v1), (2, .ref (ad 7)), (3, .int v3), (5, .long v5)]) hx hb dX2_takeFair_97 hl (k := 5) rfl rfl (by decide) rfl (fun ls hl => ?_)
          refine lv_goto (tgt := 52) hx hb dX2_takeFair_100 (by decide) ?_
          exact ih v1 v3 x_lK10 k2 hk2 v5 ((v7 + (1 : Int32))) H locs ls h hP hD hS (lv_sub hl [1, 2, 3, 4, 5, 0] rfl)
        · have h := g_t h cz
          refine lv_lload hx hb dX2_takeFair_74 (lv_at hl 4 rfl) ?_
          refine lv_aload_n hx hb dX2_takeFair_76 rfl (lv_at hl 0 rfl) ?_
          refine lv_aload_n hx hb dX2_takeFair_77 rfl (lv_at hl 0 rfl) ?_
          refine va_get (D := (dC, dI)) (ci := 2) (v := .ref (ad 11)) (C := RX2) (T := TX2) (N := 15) hx hb hts ki2 hown hK hP 0 rfl rfl 0 (by decide) kf44 (fun _ h9 => h9) rfl dX2_takeFair_78 ?_
          refine lv_iload hx hb dX2_takeFair_81 (lv_at hl 5 rfl) ?_
          obtain ⟨q83, e83, h⟩ := g_b h
          refine callVi (cc := cX2_takeFair) (ws' := zzK ad cy (ad 11) (ad 18) iK (us lK [(10, x_lK10)]) aK iB lB aB iC aC) (As := [.int v7]) (rest := [.ref (ad 0), .long v5]) ⟨hx, hb, hml, hown, hts⟩ (c_B_ruleStatement l dC dI cy (fun i => ad (i + 11)) H.size v7 iB lB aB iC aC q83 e83) (cwV 1 hts (goodV m_ml_X2_154 m_im_X0_ruleStatement m_se_X0_ruleStatement m_in_X0 m_cd_X0_ruleStatement) rfl rfl rfl (by decide +kernel) ⟨Nat.le_of_ble_eq_true rfl, Nat.le_of_ble_eq_true rfl⟩) hN hK hP hD hS hA [11, 12, 13, 14, 15, 16, 17, 18, 19, 20, 21, 22, 23, 24, 25, 26] [none, none, none, none, none, none, none, none, none, none, none, some 0, some 1, some 2, some 3, some 4, some 5, some 6, some 7, some 8, some 9, some 10, some 11, some 12, some 13, some 14, some 15] rfl rfl rfl rfl rfl rfl 11 rfl rfl rfl hl.1 rfl (Nat.le_of_ble_eq_true rfl) dX2_takeFair_83 ⟨Nat.zero_le _, Nat.zero_le _⟩ (fun H locs hP hD hS => ?_)
          refine lv_iload_n hx hb dX2_takeFair_86 rfl (lv_at hl 3 rfl) ?_
          obtain ⟨q87, e87, h⟩ := g_b h
          refine callVls (cc := cX2_takeFair) (w1 := zzK ad cy (ad 11) (ad 18) iK (us lK [(10, x_lK10)]) aK iB lB aB iC aC) (As := [.int q83, .int v3]) (rest := [.long v5]) ⟨hx, hb, hml, hown, hts⟩ (c_K_broken l dC dI cy ad H.size q83 v3 iK ((us lK [(10, x_lK10)])) aK iB lB aB iC aC q87 e87) (cwV 2 hts (goodV m_ml_X2_157 m_im_X2_broken m_se_X2_broken m_in_X2 m_cd_X2_broken) rfl rfl rfl (by decide +kernel) ⟨Nat.le_of_ble_eq_true rfl, Nat.le_of_ble_eq_true rfl⟩) hN hK hP hD hS hA rfl 0 rfl rfl rfl hl.1 rfl (Nat.le_of_ble_eq_true rfl) dX2_takeFair_87 ⟨Nat.zero_le _, Nat.zero_le _⟩ (fun H locs hP hD hS => ?_)
          refine lv_ldc2 (v := (-1)) hx hb hown kc88 dX2_takeFair_90 ?_
          refine lv_lxor hx hb dX2_takeFair_93 ?_
          refine lv_land hx hb dX2_takeFair_94 ?_
          refine lv_lstore (lv' := [(5, .long ((v5 &&& (q87 ^^^ (-1 : Int64))))), (0, .ref (ad 0)), (1, .int v1), (2, .ref (ad 7)), (3, .int v3), (7, .int v7)]) hx hb dX2_takeFair_95 hl (by decide) rfl (fun ls hl => ?_)
          refine lv_iinc (v := (v7 + (1 : Int32))) (lv' := [(7, .int ((v7 + (1 : Int32)))), (5, .long ((v5 &&& (q87 ^^^ (-1 : Int64))))), (0, .ref (ad 0)), (1, .int v1), (2, .ref (ad 7)), (3, .int v3)]) hx hb dX2_takeFair_97 hl (k := 5) rfl rfl (by decide) rfl (fun ls hl => ?_)
          refine lv_goto (tgt := 52) hx hb dX2_takeFair_100 (by decide) ?_
          exact ih v1 v3 x_lK10 k2 hk2 ((v5 &&& (q87 ^^^ (-1 : Int64)))) ((v7 + (1 : Int32))) H locs ls h hP hD hS (lv_sub hl [2, 3, 4, 5, 1, 0] rfl)
  have B2 : ∀ (n : Nat) (v1 : Int32) (v3 : Int32) (x_lK10 : Nat → Int64) (H : Heap) (locs : List Loc) (ls : Array Slot), f_K_takeFair_trial_2 N (iB 9) (aB 8) (iK 2) (lK 3) (lK 10) v1 n v3 x_lK10 = some q → va_P (dC, dI) vwCl (zzK ad cy (ad 11) (ad 18) iK (us lK [(10, x_lK10)]) aK iB lB aB iC aC) H → va_D A (zzK ad cy (ad 11) (ad 18) iK (us lK [(10, x_lK10)]) aK iB lB aB iC aC) → va_S A s.heap H locs → lv_has ls 8 [(0, .ref (ad 0)), (1, .int v1), (2, .ref (ad 7)), (3, .int v3)] → W p l e ({ frames := 2, cells := 0, slots := 0, locals := 48 } : Room) s m args below meth c H locs 0 0 QQ (F0 m 2 ls []) := by
    intro n
    induction n with
    | zero =>
      intro v1 v3 x_lK10 H locs ls h hP hD hS hl
      rw [f_K_takeFair_trial_2] at h
      cases h
    | succ n ih =>
      intro v1 v3 x_lK10 H locs ls h hP hD hS hl
      rw [f_K_takeFair_trial_2] at h
      refine lv_iload_n hx hb dX2_takeFair_2 rfl (lv_at hl 3 rfl) ?_
      refine lv_bipush (v := 8) hx hb dX2_takeFair_3 (by decide) ?_
      refine lv_icmp_ge (tgt := 114) hx hb dX2_takeFair_5 (by decide) (fun cz => ?_) (fun cz => ?_)
      · have h := g_t h cz
        have h' := Option.some.inj h
        rw [← hQQ]
        exact W.vret hx hb hr (fun t ht hW => ⟨⟨(), rfl, trivial, by rw [← hWQ, ← h', ht]; exact hP, va_K.moved hW.alike hK⟩, hS.F ht⟩) hS.2.2 dX2_takeFair_114
      · have h := g_f h cz
        refine lv_aload_n hx hb dX2_takeFair_8 rfl (lv_at hl 0 rfl) ?_
        refine va_get (D := (dC, dI)) (ci := 2) (v := .int (iK 2)) (C := RX2) (T := TX2) (N := 15) hx hb hts ki2 hown hK hP 0 rfl rfl 2 (by decide) kf67 (fun _ h9 => h9) rfl dX2_takeFair_9 ?_
        refine lv_bipush (v := 64) hx hb dX2_takeFair_12 (by decide) ?_
        refine lv_iload_n hx hb dX2_takeFair_14 rfl (lv_at hl 3 rfl) ?_
        refine lv_imul hx hb dX2_takeFair_15 ?_
        refine lv_isub hx hb dX2_takeFair_16 ?_
        refine lv_istore (lv' := [(4, .int (((iK 2) - ((64 : Int32) * v3)))), (0, .ref (ad 0)), (1, .int v1), (2, .ref (ad 7)), (3, .int v3)]) hx hb dX2_takeFair_17 hl (by decide) rfl (fun ls hl => ?_)
        refine lv_iload hx hb dX2_takeFair_19 (lv_at hl 0 rfl) ?_
        refine lv_bipush (v := 64) hx hb dX2_takeFair_21 (by decide) ?_
        refine lv_icmp_lt (tgt := 32) hx hb dX2_takeFair_23 (by decide) (fun cz => ?_) (fun cz => ?_)
        · have h := g_t h cz
          refine lv_iload hx hb dX2_takeFair_32 (lv_at hl 0 rfl) ?_
          refine lv_if_gt (tgt := 41) hx hb dX2_takeFair_34 (by decide) (fun cz => ?_) (fun cz => ?_)
          · have h := g_t h cz
            refine lv_lconst (v := 1) hx hb dX2_takeFair_41 (by decide) ?_
            refine lv_iload hx hb dX2_takeFair_42 (lv_at hl 0 rfl) ?_
            refine lv_lshl (v := ((1 : Int64) <<< ((((iK 2) - ((64 : Int32) * v3))).toInt64 &&& 63))) hx hb dX2_takeFair_44 rfl ?_
            refine lv_lconst (v := 1) hx hb dX2_takeFair_45 (by decide) ?_
            refine lv_lsub hx hb dX2_takeFair_46 ?_
            refine lv_lstore (lv' := [(5, .long ((((1 : Int64) <<< ((((iK 2) - ((64 : Int32) * v3))).toInt64 &&& 63)) - (1 : Int64)))), (4, .int (((iK 2) - ((64 : Int32) * v3)))), (0, .ref (ad 0)), (1, .int v1), (2, .ref (ad 7)), (3, .int v3)]) hx hb dX2_takeFair_47 hl (by decide) rfl (fun ls hl => ?_)
            refine lv_iconst (v := 0) hx hb dX2_takeFair_49 (by decide) ?_
            refine lv_istore (lv' := [(7, .int ((0 : Int32))), (5, .long ((((1 : Int64) <<< ((((iK 2) - ((64 : Int32) * v3))).toInt64 &&& 63)) - (1 : Int64)))), (4, .int (((iK 2) - ((64 : Int32) * v3)))), (0, .ref (ad 0)), (1, .int v1), (2, .ref (ad 7)), (3, .int v3)]) hx hb dX2_takeFair_50 hl (by decide) rfl (fun ls hl => ?_)
            exact B52 N v1 v3 x_lK10 (f_K_takeFair_trial_2 N (iB 9) (aB 8) (iK 2) (lK 3) (lK 10) v1 n) (ih v1) ((((1 : Int64) <<< ((((iK 2) - ((64 : Int32) * v3))).toInt64 &&& 63)) - (1 : Int64))) ((0 : Int32)) H locs ls h hP hD hS (lv_sub hl [3, 4, 5, 6, 1, 0] rfl)
          · have h := g_f h cz
            refine lv_lconst (v := 0) hx hb dX2_takeFair_37 (by decide) ?_
            refine lv_goto (tgt := 47) hx hb dX2_takeFair_38 (by decide) ?_
            refine lv_lstore (lv' := [(5, .long ((0 : Int64))), (4, .int (((iK 2) - ((64 : Int32) * v3)))), (0, .ref (ad 0)), (1, .int v1), (2, .ref (ad 7)), (3, .int v3)]) hx hb dX2_takeFair_47 hl (by decide) rfl (fun ls hl => ?_)
            refine lv_iconst (v := 0) hx hb dX2_takeFair_49 (by decide) ?_
            refine lv_istore (lv' := [(7, .int ((0 : Int32))), (5, .long ((0 : Int64))), (4, .int (((iK 2) - ((64 : Int32) * v3)))), (0, .ref (ad 0)), (1, .int v1), (2, .ref (ad 7)), (3, .int v3)]) hx hb dX2_takeFair_50 hl (by decide) rfl (fun ls hl => ?_)
            exact B52 N v1 v3 x_lK10 (f_K_takeFair_trial_2 N (iB 9) (aB 8) (iK 2) (lK 3) (lK 10) v1 n) (ih v1) ((0 : Int64)) ((0 : Int32)) H locs ls h hP hD hS (lv_sub hl [3, 4, 5, 6, 1, 0] rfl)
        · have h := g_f h cz
          refine lv_ldc2 (v := (-1)) hx hb hown kc88 dX2_takeFair_26 ?_
          refine lv_goto (tgt := 47) hx hb dX2_takeFair_29 (by decide) ?_
          refine lv_lstore (lv' := [(5, .long ((-1 : Int64))), (4, .int (((iK 2) - ((64 : Int32) * v3)))), (0, .ref (ad 0)), (1, .int v1), (2, .ref (ad 7)), (3, .int v3)]) hx hb dX2_takeFair_47 hl (by decide) rfl (fun ls hl => ?_)
          refine lv_iconst (v := 0) hx hb dX2_takeFair_49 (by decide) ?_
          refine lv_istore (lv' := [(7, .int ((0 : Int32))), (5, .long ((-1 : Int64))), (4, .int (((iK 2) - ((64 : Int32) * v3)))), (0, .ref (ad 0)), (1, .int v1), (2, .ref (ad 7)), (3, .int v3)]) hx hb dX2_takeFair_50 hl (by decide) rfl (fun ls hl => ?_)
          exact B52 N v1 v3 x_lK10 (f_K_takeFair_trial_2 N (iB 9) (aB 8) (iK 2) (lK 3) (lK 10) v1 n) (ih v1) ((-1 : Int64)) ((0 : Int32)) H locs ls h hP hD hS (lv_sub hl [3, 4, 5, 6, 1, 0] rfl)
  intro H locs hP hD hS
  unfold f_K_takeFair_trial at h
  refine lv_iconst (v := 0) hx hb dX2_takeFair_0 (by decide) ?_
  refine lv_istore_n (lv' := [(3, .int ((0 : Int32))), (0, .ref (ad 0)), (1, .int a1), (2, .ref (ad 7))]) hx hb dX2_takeFair_1 rfl hl (by decide) rfl (fun ls hl => ?_)
  exact B2 N a1 ((0 : Int32)) (lK 10) H locs ls h hP hD hS (lv_sub hl [1, 2, 3, 0] rfl)
set_option maxHeartbeats 8000000 in
set_option maxRecDepth 100000 in
theorem c_K_goRound_trial (l : Launch) (dC : Nat → ClassId) (dI : Nat → Nat → Nat) (cy : Nat → ClassId) (ad : Nat → Nat) (sz : Nat) (N : Nat) (a2 : Int32) (iK : Nat → Int32) (lK : Nat → Nat → Int64) (aK : Nat → Nat → Int32) (iB : Nat → Int32) (lB : Nat → Nat → Int64) (aB : Nat → Nat → Int32) (iC : Nat → Int32) (aC : Nat → Nat → Int32) (q : Int32 × (Nat → Int64) × (Nat → Int64) × (Nat → Int64) × (Nat → Int32)) (h : f_K_goRound_trial N a2 (iB 13) (iC 9) (aC 5) (iK 2) (iK 7) (lK 4) (lK 10) (lK 11) (lK 12) (aK 5) (aK 6) (aK 13) = some q) : Met l yX2_goRound wsX2_goRound ({ frames := 4, cells := 0, slots := 0, locals := 100 } : Room) (cP (dC, dI) cy [.ref (ad 0), .ref (ad 7), .int a2] (zzK ad cy (ad 11) (ad 18) iK lK aK iB lB aB iC aC) sz) (cQi (dC, dI) cy q.1 (zzK ad cy (ad 11) (ad 18) iK (us lK [(10, q.2.1), (11, q.2.2.1), (12, q.2.2.2.1)]) (us aK [(13, q.2.2.2.2)]) iB lB aB iC aC) (va_A (zzK ad cy (ad 11) (ad 18) iK lK aK iB lB aB iC aC) sz)) 0 0 (va_A (zzK ad cy (ad 11) (ad 18) iK lK aK iB lB aB iC aC) sz) := by
  refine Met.ofW (cc := cX2_goRound) (maxL := 6) (ret := (some .boolean)) (by decide) rfl ?_
  intro p e s m args below meth c s₁ B hml hv
  obtain ⟨hav, hsz, hP, hK, hD0, hN⟩ := hv
  have hx := B.exec
  have hb := B.bytes
  have hr := B.returns
  have hts := atoms_spec (ws := wsX2_goRound) B.pre
  have hown : s.vm.findClass RX2 = some m.cls := findClass_of_methodNamed B.named
  have hlocks := B.notSynchronized
  subst hsz
  have hD := hD0.self (sz := s.heap.size)
  generalize hAe : va_A (zzK ad cy (ad 11) (ad 18) iK lK aK iB lB aB iC aC) s.heap.size = A at hD ⊢
  have hA : ∀ q : Nat, s.heap.size ≤ q → A q := fun q h => by rw [← hAe]; exact Or.inr h
  have hS : va_S A s.heap s.heap [] := va_S.rf
  generalize hWQ : (zzK ad cy (ad 11) (ad 18) iK (us lK [(10, q.2.1), (11, q.2.2.1), (12, q.2.2.2.1)]) (us aK [(13, q.2.2.2.2)]) iB lB aB iC aC) = WQ
  generalize hQQ : MQ below (cQi (dC, dI) cy q.1 WQ A) args s 0 0 A = QQ
  have hl := lv_entry ([.ref (ad 0), .ref (ad 7), .int a2] : List Value) (n := 6) (Nat.le_of_ble_eq_true rfl)
  have hfr := lg_entry_eq m ([.ref (ad 0), .ref (ad 7), .int a2] : List Value) 6
  rw [← hav] at hfr
  rw [hfr]
  clear hfr hav
  generalize (lg_sl ([.ref (ad 0), .ref (ad 7), .int a2] : List Value) ++ List.replicate (6 - (lg_sl ([.ref (ad 0), .ref (ad 7), .int a2] : List Value)).length) Slot.unset).toArray = ls at hl ⊢
  have hl : lv_has ls 6 [(0, .ref (ad 0)), (1, .ref (ad 7)), (2, .int a2)] := hl
  have kf34 := hts _ (List.mem_cons_of_mem _ m_fl_X2_34)
  have ki2 := (fun w h => List.mem_cons_of_mem _ (i_X2 w h) : ∀ w ∈ u_ws RX2 TX2 15, w ∈ wsX2_goRound)
  have kf37 := hts _ (List.mem_cons_of_mem _ m_fl_X2_37)
  have kf40 := hts _ (List.mem_cons_of_mem _ m_fl_X2_40)
  have kf67 := hts _ (List.mem_cons_of_mem _ m_fl_X2_67)
  have kf144 := hts _ (List.mem_cons_of_mem _ m_fl_X2_144)
  have ka1 := hts _ (List.mem_cons_of_mem _ m_ml_X2_100)
  have ka2 := hts _ (List.mem_cons_of_mem _ m_na_java_lang_System_arraycopy)
  have ka3 := hts _ (List.mem_cons_of_mem _ m_st_java_lang_System_arraycopy)
  have ka4 := hts _ (List.mem_cons_of_mem _ m_in_java_lang_System)
  refine (?_ : ∀ (H : Heap) (locs : List Loc), va_P (dC, dI) vwCl (zzK ad cy (ad 11) (ad 18) iK lK aK iB lB aB iC aC) H → va_D A (zzK ad cy (ad 11) (ad 18) iK lK aK iB lB aB iC aC) → va_S A s.heap H locs → W p l e ({ frames := 4, cells := 0, slots := 0, locals := 100 } : Room) s m args below meth c H locs 0 0 QQ (F0 m 0 ls [])) s.heap [] hP hD hS
  clear hP hD hS
  have B65 : ∀ (v2 : Int32) (v3 : Int32) (v4 : Int32) (v5 : Int32) (x_lK10 : Nat → Int64) (x_lK11 : Nat → Int64) (x_lK12 : Nat → Int64) (x_aK13 : Nat → Int32) (k17 : Int32 → Int32 → (Nat → Int64) → (Nat → Int64) → (Nat → Int32) → Option (Int32 × (Nat → Int64) × (Nat → Int64) × (Nat → Int64) × (Nat → Int32))) (hk17 : ∀ (v3' : Int32) (v4' : Int32) (x_lK10' : Nat → Int64) (x_lK12' : Nat → Int64) (x_aK13' : Nat → Int32) (H : Heap) (locs : List Loc) (ls : Array Slot), k17 v3' v4' x_lK10' x_lK12' x_aK13' = some q → va_P (dC, dI) vwCl (zzK ad cy (ad 11) (ad 18) iK (us lK [(10, x_lK10'), (11, x_lK11), (12, x_lK12')]) (us aK [(13, x_aK13')]) iB lB aB iC aC) H → va_D A (zzK ad cy (ad 11) (ad 18) iK (us lK [(10, x_lK10'), (11, x_lK11), (12, x_lK12')]) (us aK [(13, x_aK13')]) iB lB aB iC aC) → va_S A s.heap H locs → lv_has ls 6 [(0, .ref (ad 0)), (1, .ref (ad 7)), (2, .int v2), (3, .int v3'), (4, .int v4')] → W p l e ({ frames := 4, cells := 0, slots := 0, locals := 100 } : Room) s m args below meth c H locs 0 0 QQ (F0 m 17 ls [])) (H : Heap) (locs : List Loc) (ls : Array Slot), f_K_goRound_trial_65 N (iB 13) (iC 9) (aC 5) (iK 2) (iK 7) (lK 4) (lK 10) (lK 11) (lK 12) (aK 5) (aK 6) (aK 13) k17 v2 v3 v4 v5 x_lK10 x_lK11 x_lK12 x_aK13 = some q → va_P (dC, dI) vwCl (zzK ad cy (ad 11) (ad 18) iK (us lK [(10, x_lK10), (11, x_lK11), (12, x_lK12)]) (us aK [(13, x_aK13)]) iB lB aB iC aC) H → va_D A (zzK ad cy (ad 11) (ad 18) iK (us lK [(10, x_lK10), (11, x_lK11), (12, x_lK12)]) (us aK [(13, x_aK13)]) iB lB aB iC aC) → va_S A s.heap H locs → lv_has ls 6 [(0, .ref (ad 0)), (1, .ref (ad 7)), (2, .int v2), (3, .int v3), (4, .int v4), (5, .int v5)] → W p l e ({ frames := 4, cells := 0, slots := 0, locals := 100 } : Room) s m args below meth c H locs 0 0 QQ (F0 m 65 ls []) := by
    intro v2 v3 v4 v5 x_lK10 x_lK11 x_lK12 x_aK13 k17 hk17 H locs ls h hP hD hS hl
    unfold f_K_goRound_trial_65 at h
    refine lv_aload_n hx hb dX2_goRound_65 rfl (lv_at hl 0 rfl) ?_
    refine va_get (D := (dC, dI)) (ci := 2) (v := .ref (ad 8)) (C := RX2) (T := TX2) (N := 15) hx hb hts ki2 hown hK hP 0 rfl rfl 11 (by decide) kf34 (fun _ h9 => h9) rfl dX2_goRound_66 ?_
    refine lv_iload hx hb dX2_goRound_69 (lv_at hl 4 rfl) ?_
    obtain ⟨q71, e71, h⟩ := g_b h
    refine callSi (cc := cX2_goRound) (ws' := zzK ad cy (ad 11) (ad 18) iK (us lK [(10, x_lK10), (11, x_lK11), (12, x_lK12)]) (us aK [(13, x_aK13)]) iB lB aB iC aC) (As := [.ref (ad 8), .int v4]) (rest := []) ⟨hx, hb, hml, hown, hts⟩ (c_K_has l dC dI cy (fun i => ad (i + 8)) H.size 8 v4 x_lK11 q71 e71) (va_cwS 2 hts (goodS m_ml_X2_106 m_st_X2_has m_in_X2 m_cd_X2_has) rfl rfl rfl (by decide +kernel) ⟨Nat.le_of_ble_eq_true rfl, Nat.le_of_ble_eq_true rfl⟩) hN hK hP hD hS hA [8] [none, none, none, none, none, none, none, none, some 0, none, none, none, none, none, none, none, none, none, none, none, none, none, none, none, none, none, none] rfl rfl rfl rfl rfl rfl rfl hl.1 rfl (Nat.le_of_ble_eq_true rfl) dX2_goRound_71 ⟨Nat.zero_le _, Nat.zero_le _⟩ (fun H locs hP hD hS => ?_)
    refine lv_if_eq (tgt := 111) hx hb dX2_goRound_74 (by decide) (fun cz => ?_) (fun cz => ?_)
    · have h := g_t h cz
      refine lv_iinc (v := (v4 + (1 : Int32))) (lv' := [(4, .int ((v4 + (1 : Int32)))), (0, .ref (ad 0)), (1, .ref (ad 7)), (2, .int v2), (3, .int v3), (5, .int v5)]) hx hb dX2_goRound_111 hl (k := 4) rfl rfl (by decide) rfl (fun ls hl => ?_)
      refine lv_goto (tgt := 17) hx hb dX2_goRound_114 (by decide) ?_
      exact hk17 v3 ((v4 + (1 : Int32))) x_lK10 x_lK12 x_aK13 H locs ls h hP hD hS (lv_sub hl [1, 2, 3, 4, 0] rfl)
    · have h := g_f h cz
      refine lv_aload_n hx hb dX2_goRound_77 rfl (lv_at hl 0 rfl) ?_
      refine va_get (D := (dC, dI)) (ci := 2) (v := .ref (ad 9)) (C := RX2) (T := TX2) (N := 15) hx hb hts ki2 hown hK hP 0 rfl rfl 12 (by decide) kf37 (fun _ h9 => h9) rfl dX2_goRound_78 ?_
      refine lv_iload hx hb dX2_goRound_81 (lv_at hl 5 rfl) ?_
      obtain ⟨q83, e83, h⟩ := g_b h
      refine callSi (cc := cX2_goRound) (ws' := zzK ad cy (ad 11) (ad 18) iK (us lK [(10, x_lK10), (11, x_lK11), (12, x_lK12)]) (us aK [(13, x_aK13)]) iB lB aB iC aC) (As := [.ref (ad 9), .int v5]) (rest := []) ⟨hx, hb, hml, hown, hts⟩ (c_K_has l dC dI cy (fun i => ad (i + 9)) H.size 8 v5 x_lK12 q83 e83) (va_cwS 2 hts (goodS m_ml_X2_106 m_st_X2_has m_in_X2 m_cd_X2_has) rfl rfl rfl (by decide +kernel) ⟨Nat.le_of_ble_eq_true rfl, Nat.le_of_ble_eq_true rfl⟩) hN hK hP hD hS hA [9] [none, none, none, none, none, none, none, none, none, some 0, none, none, none, none, none, none, none, none, none, none, none, none, none, none, none, none, none] rfl rfl rfl rfl rfl rfl rfl hl.1 rfl (Nat.le_of_ble_eq_true rfl) dX2_goRound_83 ⟨Nat.zero_le _, Nat.zero_le _⟩ (fun H locs hP hD hS => ?_)
      refine lv_if_ne (tgt := 111) hx hb dX2_goRound_86 (by decide) (fun cz => ?_) (fun cz => ?_)
      · have h := g_f h cz
        refine lv_iinc (v := (v4 + (1 : Int32))) (lv' := [(4, .int ((v4 + (1 : Int32)))), (0, .ref (ad 0)), (1, .ref (ad 7)), (2, .int v2), (3, .int v3), (5, .int v5)]) hx hb dX2_goRound_111 hl (k := 4) rfl rfl (by decide) rfl (fun ls hl => ?_)
        refine lv_goto (tgt := 17) hx hb dX2_goRound_114 (by decide) ?_
        exact hk17 v3 ((v4 + (1 : Int32))) x_lK10 x_lK12 x_aK13 H locs ls h hP hD hS (lv_sub hl [1, 2, 3, 4, 0] rfl)
      · have h := g_t h cz
        refine lv_aload_n hx hb dX2_goRound_89 rfl (lv_at hl 1 rfl) ?_
        refine lv_iload hx hb dX2_goRound_90 (lv_at hl 4 rfl) ?_
        refine lv_iconst (v := 0) hx hb dX2_goRound_92 (by decide) ?_
        obtain ⟨q93, e93, h⟩ := g_b h
        refine callSv (cc := cX2_goRound) (ws' := zzK ad cy (ad 11) (ad 18) iK (us lK [(10, q93), (11, x_lK11), (12, x_lK12)]) (us aK [(13, x_aK13)]) iB lB aB iC aC) (As := [.ref (ad 7), .int v4, .int ((0 : Int32))]) (rest := []) ⟨hx, hb, hml, hown, hts⟩ (c_K_put l dC dI cy (fun i => ad (i + 7)) H.size 8 v4 ((0 : Int32)) x_lK10 q93 e93) (va_cwS 3 hts (goodS m_ml_X2_169 m_st_X2_put m_in_X2 m_cd_X2_put) rfl rfl rfl (by decide +kernel) ⟨Nat.le_of_ble_eq_true rfl, Nat.le_of_ble_eq_true rfl⟩) hN hK hP hD hS hA [7] [none, none, none, none, none, none, none, some 0, none, none, none, none, none, none, none, none, none, none, none, none, none, none, none, none, none, none, none] rfl rfl rfl rfl rfl rfl rfl hl.1 rfl (Nat.le_of_ble_eq_true rfl) dX2_goRound_93 ⟨Nat.zero_le _, Nat.zero_le _⟩ (fun H locs hP hD hS => ?_)
        refine lv_iconst (v := 1) hx hb dX2_goRound_96 (by decide) ?_
        refine lv_istore_n (lv' := [(3, .int ((1 : Int32))), (0, .ref (ad 0)), (1, .ref (ad 7)), (2, .int v2), (4, .int v4), (5, .int v5)]) hx hb dX2_goRound_97 rfl hl (by decide) rfl (fun ls hl => ?_)
        refine lv_iload_n hx hb dX2_goRound_98 rfl (lv_at hl 3 rfl) ?_
        refine lv_if_le (tgt := 111) hx hb dX2_goRound_99 (by decide) (fun cz => ?_) (fun cz => ?_)
        · have h := g_t h cz
          refine lv_iinc (v := (v4 + (1 : Int32))) (lv' := [(4, .int ((v4 + (1 : Int32)))), (3, .int ((1 : Int32))), (0, .ref (ad 0)), (1, .ref (ad 7)), (2, .int v2), (5, .int v5)]) hx hb dX2_goRound_111 hl (k := 4) rfl rfl (by decide) rfl (fun ls hl => ?_)
          refine lv_goto (tgt := 17) hx hb dX2_goRound_114 (by decide) ?_
          exact hk17 ((1 : Int32)) ((v4 + (1 : Int32))) q93 x_lK12 x_aK13 H locs ls h hP hD hS (lv_sub hl [2, 3, 4, 1, 0] rfl)
        · have h := g_f h cz
          refine lv_aload_n hx hb dX2_goRound_102 rfl (lv_at hl 1 rfl) ?_
          refine va_get (D := (dC, dI)) (ci := 2) (v := .ref (ad 10)) (C := RX2) (T := TX2) (N := 15) hx hb hts ki2 hown hK hP 0 rfl rfl 13 (by decide) kf40 (fun _ h9 => h9) rfl dX2_goRound_103 ?_
          refine lv_iload hx hb dX2_goRound_106 (lv_at hl 4 rfl) ?_
          refine lv_iload_n hx hb dX2_goRound_108 rfl (lv_at hl 3 rfl) ?_
          refine lv_i2s (v := (v2).toInt16.toInt32) hx hb dX2_goRound_109 rfl ?_
          obtain ⟨g_28, h⟩ := g_n h
          refine va_sast (f := x_aK13) hx hb hK hP hD hS 10 3 rfl rfl g_28 dX2_goRound_110 (fun H locs hP hD hS => ?_)
          have hP : va_P (dC, dI) vwCl (zzK ad cy (ad 11) (ad 18) iK (us lK [(10, q93), (11, x_lK11), (12, x_lK12)]) (us aK [(13, (upd x_aK13 v4.toNatClampNeg (vp_nar .short (v2).toInt16.toInt32)))]) iB lB aB iC aC) H := Eq.mp (congrArg (fun w => va_P (dC, dI) vwCl w H) (stK_aK13 ad cy (ad 11) (ad 18) iK (us lK [(10, q93), (11, x_lK11), (12, x_lK12)]) aK iB lB aB iC aC [(13, x_aK13)] ((upd x_aK13 v4.toNatClampNeg (vp_nar .short (v2).toInt16.toInt32))))) hP
          have hD : va_D A (zzK ad cy (ad 11) (ad 18) iK (us lK [(10, q93), (11, x_lK11), (12, x_lK12)]) (us aK [(13, (upd x_aK13 v4.toNatClampNeg (vp_nar .short (v2).toInt16.toInt32)))]) iB lB aB iC aC) := Eq.mp (congrArg (fun w => va_D A w) (stK_aK13 ad cy (ad 11) (ad 18) iK (us lK [(10, q93), (11, x_lK11), (12, x_lK12)]) aK iB lB aB iC aC [(13, x_aK13)] ((upd x_aK13 v4.toNatClampNeg (vp_nar .short (v2).toInt16.toInt32))))) hD
          refine lv_iinc (v := (v4 + (1 : Int32))) (lv' := [(4, .int ((v4 + (1 : Int32)))), (3, .int ((1 : Int32))), (0, .ref (ad 0)), (1, .ref (ad 7)), (2, .int v2), (5, .int v5)]) hx hb dX2_goRound_111 hl (k := 4) rfl rfl (by decide) rfl (fun ls hl => ?_)
          refine lv_goto (tgt := 17) hx hb dX2_goRound_114 (by decide) ?_
          exact hk17 ((1 : Int32)) ((v4 + (1 : Int32))) q93 x_lK12 ((upd x_aK13 v4.toNatClampNeg (vp_nar .short (v2).toInt16.toInt32))) H locs ls h hP hD hS (lv_sub hl [2, 3, 4, 1, 0] rfl)
  have B17 : ∀ (n : Nat) (v2 : Int32) (x_lK11 : Nat → Int64) (v3 : Int32) (v4 : Int32) (x_lK10 : Nat → Int64) (x_lK12 : Nat → Int64) (x_aK13 : Nat → Int32) (H : Heap) (locs : List Loc) (ls : Array Slot), f_K_goRound_trial_17 N (iB 13) (iC 9) (aC 5) (iK 2) (iK 7) (lK 4) (lK 10) (lK 11) (lK 12) (aK 5) (aK 6) (aK 13) v2 x_lK11 n v3 v4 x_lK10 x_lK12 x_aK13 = some q → va_P (dC, dI) vwCl (zzK ad cy (ad 11) (ad 18) iK (us lK [(10, x_lK10), (11, x_lK11), (12, x_lK12)]) (us aK [(13, x_aK13)]) iB lB aB iC aC) H → va_D A (zzK ad cy (ad 11) (ad 18) iK (us lK [(10, x_lK10), (11, x_lK11), (12, x_lK12)]) (us aK [(13, x_aK13)]) iB lB aB iC aC) → va_S A s.heap H locs → lv_has ls 6 [(0, .ref (ad 0)), (1, .ref (ad 7)), (2, .int v2), (3, .int v3), (4, .int v4)] → W p l e ({ frames := 4, cells := 0, slots := 0, locals := 100 } : Room) s m args below meth c H locs 0 0 QQ (F0 m 17 ls []) := by
    intro n
    induction n with
    | zero =>
      intro v2 x_lK11 v3 v4 x_lK10 x_lK12 x_aK13 H locs ls h hP hD hS hl
      rw [f_K_goRound_trial_17] at h
      cases h
    | succ n ih =>
      intro v2 x_lK11 v3 v4 x_lK10 x_lK12 x_aK13 H locs ls h hP hD hS hl
      rw [f_K_goRound_trial_17] at h
      refine lv_iload hx hb dX2_goRound_17 (lv_at hl 4 rfl) ?_
      refine lv_aload_n hx hb dX2_goRound_19 rfl (lv_at hl 0 rfl) ?_
      refine va_get (D := (dC, dI)) (ci := 2) (v := .int (iK 2)) (C := RX2) (T := TX2) (N := 15) hx hb hts ki2 hown hK hP 0 rfl rfl 2 (by decide) kf67 (fun _ h9 => h9) rfl dX2_goRound_20 ?_
      refine lv_icmp_ge (tgt := 117) hx hb dX2_goRound_23 (by decide) (fun cz => ?_) (fun cz => ?_)
      · have h := g_t h cz
        refine lv_iload_n hx hb dX2_goRound_117 rfl (lv_at hl 3 rfl) ?_
        obtain ⟨gz, h⟩ := g_p h
        have h' := Option.some.inj h
        rw [← hQQ]
        exact W.zret (v := v3) hx hb hr (g_zr _ gz) (fun t ht hW => ⟨⟨v3, (), rfl, by rw [← h'], by rw [← hWQ, ← h', ht]; exact hP, va_K.moved hW.alike hK⟩, hS.F ht⟩) hS.2.2 dX2_goRound_118
      · have h := g_f h cz
        refine lv_iload hx hb dX2_goRound_26 (lv_at hl 4 rfl) ?_
        refine lv_sipush (v := 512) hx hb dX2_goRound_28 (by decide) ?_
        refine lv_icmp_ge (tgt := 117) hx hb dX2_goRound_31 (by decide) (fun cz => ?_) (fun cz => ?_)
        · have h := g_t h cz
          refine lv_iload_n hx hb dX2_goRound_117 rfl (lv_at hl 3 rfl) ?_
          obtain ⟨gz, h⟩ := g_p h
          have h' := Option.some.inj h
          rw [← hQQ]
          exact W.zret (v := v3) hx hb hr (g_zr _ gz) (fun t ht hW => ⟨⟨v3, (), rfl, by rw [← h'], by rw [← hWQ, ← h', ht]; exact hP, va_K.moved hW.alike hK⟩, hS.F ht⟩) hS.2.2 dX2_goRound_118
        · have h := g_f h cz
          refine lv_iload hx hb dX2_goRound_34 (lv_at hl 4 rfl) ?_
          refine lv_aload_n hx hb dX2_goRound_36 rfl (lv_at hl 0 rfl) ?_
          refine va_get (D := (dC, dI)) (ci := 2) (v := .int (iK 7)) (C := RX2) (T := TX2) (N := 15) hx hb hts ki2 hown hK hP 0 rfl rfl 7 (by decide) kf144 (fun _ h9 => h9) rfl dX2_goRound_37 ?_
          refine lv_iand hx hb dX2_goRound_40 ?_
          refine lv_istore (lv' := [(5, .int ((v4 &&& (iK 7)))), (0, .ref (ad 0)), (1, .ref (ad 7)), (2, .int v2), (3, .int v3), (4, .int v4)]) hx hb dX2_goRound_41 hl (by decide) rfl (fun ls hl => ?_)
          refine lv_iload hx hb dX2_goRound_43 (lv_at hl 0 rfl) ?_
          refine lv_iload hx hb dX2_goRound_45 (lv_at hl 5 rfl) ?_
          refine lv_icmp_ne (tgt := 65) hx hb dX2_goRound_47 (by decide) (fun cz => ?_) (fun cz => ?_)
          · have h := g_f h cz
            exact B65 v2 v3 v4 ((v4 &&& (iK 7))) x_lK10 x_lK11 x_lK12 x_aK13 (f_K_goRound_trial_17 N (iB 13) (iC 9) (aC 5) (iK 2) (iK 7) (lK 4) (lK 10) (lK 11) (lK 12) (aK 5) (aK 6) (aK 13) v2 x_lK11 n) (ih v2 x_lK11) H locs ls h hP hD hS (lv_sub hl [1, 2, 3, 4, 5, 0] rfl)
          · have h := g_t h cz
            refine lv_aload_n hx hb dX2_goRound_50 rfl (lv_at hl 1 rfl) ?_
            refine va_get (D := (dC, dI)) (ci := 2) (v := .ref (ad 9)) (C := RX2) (T := TX2) (N := 15) hx hb hts ki2 hown hK hP 0 rfl rfl 12 (by decide) kf37 (fun _ h9 => h9) rfl dX2_goRound_51 ?_
            refine lv_iload hx hb dX2_goRound_54 (lv_at hl 5 rfl) ?_
            refine lv_aload_n hx hb dX2_goRound_56 rfl (lv_at hl 1 rfl) ?_
            refine lv_iload hx hb dX2_goRound_57 (lv_at hl 5 rfl) ?_
            obtain ⟨q59, e59, h⟩ := g_b h
            refine callVis (cc := cX2_goRound) (w1 := zzK ad cy (ad 11) (ad 18) iK (us lK [(10, x_lK10), (11, x_lK11), (12, x_lK12)]) (us aK [(13, x_aK13)]) iB lB aB iC aC) (As := [.int v4]) (rest := [.int v4, .ref (ad 9)]) ⟨hx, hb, hml, hown, hts⟩ (c_K_isMet l dC dI cy ad H.size N v4 iK ((us lK [(10, x_lK10), (11, x_lK11), (12, x_lK12)])) ((us aK [(13, x_aK13)])) iB lB aB iC aC q59 e59) (cwV 1 hts (goodV m_ml_X2_166 m_im_X2_isMet m_se_X2_isMet m_in_X2 m_cd_X2_isMet) rfl rfl rfl (by decide +kernel) ⟨Nat.le_of_ble_eq_true rfl, Nat.le_of_ble_eq_true rfl⟩) hN hK hP hD hS hA rfl 0 rfl rfl rfl hl.1 rfl (Nat.le_of_ble_eq_true rfl) dX2_goRound_59 ⟨Nat.zero_le _, Nat.zero_le _⟩ (fun H locs hP hD hS => ?_)
            obtain ⟨q62, e62, h⟩ := g_b h
            refine callSv (cc := cX2_goRound) (ws' := zzK ad cy (ad 11) (ad 18) iK (us lK [(10, x_lK10), (11, x_lK11), (12, q62)]) (us aK [(13, x_aK13)]) iB lB aB iC aC) (As := [.ref (ad 9), .int v4, .int q59]) (rest := []) ⟨hx, hb, hml, hown, hts⟩ (c_K_put l dC dI cy (fun i => ad (i + 9)) H.size 8 v4 q59 x_lK12 q62 e62) (va_cwS 3 hts (goodS m_ml_X2_169 m_st_X2_put m_in_X2 m_cd_X2_put) rfl rfl rfl (by decide +kernel) ⟨Nat.le_of_ble_eq_true rfl, Nat.le_of_ble_eq_true rfl⟩) hN hK hP hD hS hA [9] [none, none, none, none, none, none, none, none, none, some 0, none, none, none, none, none, none, none, none, none, none, none, none, none, none, none, none, none] rfl rfl rfl rfl rfl rfl rfl hl.1 rfl (Nat.le_of_ble_eq_true rfl) dX2_goRound_62 ⟨Nat.zero_le _, Nat.zero_le _⟩ (fun H locs hP hD hS => ?_)
            exact B65 v2 v3 v4 ((v4 &&& (iK 7))) x_lK10 x_lK11 q62 x_aK13 (f_K_goRound_trial_17 N (iB 13) (iC 9) (aC 5) (iK 2) (iK 7) (lK 4) (lK 10) (lK 11) (lK 12) (aK 5) (aK 6) (aK 13) v2 x_lK11 n) (ih v2 x_lK11) H locs ls h hP hD hS (lv_sub hl [1, 2, 3, 4, 5, 0] rfl)
  intro H locs hP hD hS
  unfold f_K_goRound_trial at h
  refine lv_aload_n hx hb dX2_goRound_0 rfl (lv_at hl 1 rfl) ?_
  refine lv_iconst (v := 0) hx hb dX2_goRound_1 (by decide) ?_
  refine lv_aload_n hx hb dX2_goRound_2 rfl (lv_at hl 0 rfl) ?_
  refine va_get (D := (dC, dI)) (ci := 2) (v := .ref (ad 8)) (C := RX2) (T := TX2) (N := 15) hx hb hts ki2 hown hK hP 0 rfl rfl 11 (by decide) kf34 (fun _ h9 => h9) rfl dX2_goRound_3 ?_
  refine lv_iconst (v := 0) hx hb dX2_goRound_6 (by decide) ?_
  refine lv_bipush (v := 8) hx hb dX2_goRound_7 (by decide) ?_
  refine va_copyl (f := (lK 10)) (g := (lK 11)) hx hb (by rw [hml]; exact hl.1.symm) hown ka1 ka2 ka3 ka4 hK hP hD hS 7 8 2 2 rfl rfl rfl rfl rfl (by decide) (by decide) (by decide) (by decide) (by decide) (fun _ _ => rfl) (Nat.le_of_ble_eq_true rfl) (Nat.le_of_ble_eq_true rfl) dX2_goRound_9 (fun H locs hP hD hS => ?_)
  have hP : va_P (dC, dI) vwCl (zzK ad cy (ad 11) (ad 18) iK (us lK [(11, (va_cpy (lK 10) (lK 11) ((0 : Int32)).toNatClampNeg ((0 : Int32)).toNatClampNeg ((8 : Int32)).toNatClampNeg))]) aK iB lB aB iC aC) H := Eq.mp (congrArg (fun w => va_P (dC, dI) vwCl w H) (sfK_lK11 ad cy (ad 11) (ad 18) iK lK aK iB lB aB iC aC ((va_cpy (lK 10) (lK 11) ((0 : Int32)).toNatClampNeg ((0 : Int32)).toNatClampNeg ((8 : Int32)).toNatClampNeg)))) hP
  have hD : va_D A (zzK ad cy (ad 11) (ad 18) iK (us lK [(11, (va_cpy (lK 10) (lK 11) ((0 : Int32)).toNatClampNeg ((0 : Int32)).toNatClampNeg ((8 : Int32)).toNatClampNeg))]) aK iB lB aB iC aC) := Eq.mp (congrArg (fun w => va_D A w) (sfK_lK11 ad cy (ad 11) (ad 18) iK lK aK iB lB aB iC aC ((va_cpy (lK 10) (lK 11) ((0 : Int32)).toNatClampNeg ((0 : Int32)).toNatClampNeg ((8 : Int32)).toNatClampNeg)))) hD
  refine lv_iconst (v := 0) hx hb dX2_goRound_12 (by decide) ?_
  refine lv_istore_n (lv' := [(3, .int ((0 : Int32))), (0, .ref (ad 0)), (1, .ref (ad 7)), (2, .int a2)]) hx hb dX2_goRound_13 rfl hl (by decide) rfl (fun ls hl => ?_)
  refine lv_iconst (v := 0) hx hb dX2_goRound_14 (by decide) ?_
  refine lv_istore (lv' := [(4, .int ((0 : Int32))), (3, .int ((0 : Int32))), (0, .ref (ad 0)), (1, .ref (ad 7)), (2, .int a2)]) hx hb dX2_goRound_15 hl (by decide) rfl (fun ls hl => ?_)
  exact B17 N a2 ((va_cpy (lK 10) (lK 11) ((0 : Int32)).toNatClampNeg ((0 : Int32)).toNatClampNeg ((8 : Int32)).toNatClampNeg)) ((0 : Int32)) ((0 : Int32)) (lK 10) (lK 12) (aK 13) H locs ls h hP hD hS (lv_sub hl [2, 3, 4, 1, 0] rfl)
set_option maxHeartbeats 8000000 in
set_option maxRecDepth 100000 in
theorem c_K_settle_trial (l : Launch) (dC : Nat → ClassId) (dI : Nat → Nat → Nat) (cy : Nat → ClassId) (ad : Nat → Nat) (sz : Nat) (N : Nat) (a2 : Int32) (iK : Nat → Int32) (lK : Nat → Nat → Int64) (aK : Nat → Nat → Int32) (iB : Nat → Int32) (lB : Nat → Nat → Int64) (aB : Nat → Nat → Int32) (iC : Nat → Int32) (aC : Nat → Nat → Int32) (q : Int32 × (Nat → Int64) × (Nat → Int64) × (Nat → Int64) × (Nat → Int32)) (h : f_K_settle_trial N a2 (iB 13) (iC 9) (aC 5) (iK 2) (iK 7) (lK 4) (lK 10) (lK 11) (lK 12) (aK 5) (aK 6) (aK 13) = some q) : Met l yX2_settle wsX2_settle ({ frames := 5, cells := 0, slots := 0, locals := 125 } : Room) (cP (dC, dI) cy [.ref (ad 0), .ref (ad 7), .int a2] (zzK ad cy (ad 11) (ad 18) iK lK aK iB lB aB iC aC) sz) (cQi (dC, dI) cy q.1 (zzK ad cy (ad 11) (ad 18) iK (us lK [(10, q.2.1), (11, q.2.2.1), (12, q.2.2.2.1)]) (us aK [(13, q.2.2.2.2)]) iB lB aB iC aC) (va_A (zzK ad cy (ad 11) (ad 18) iK lK aK iB lB aB iC aC) sz)) 0 0 (va_A (zzK ad cy (ad 11) (ad 18) iK lK aK iB lB aB iC aC) sz) := by
  refine Met.ofW (cc := cX2_settle) (maxL := 4) (ret := (some .int)) (by decide) rfl ?_
  intro p e s m args below meth c s₁ B hml hv
  obtain ⟨hav, hsz, hP, hK, hD0, hN⟩ := hv
  have hx := B.exec
  have hb := B.bytes
  have hr := B.returns
  have hts := atoms_spec (ws := wsX2_settle) B.pre
  have hown : s.vm.findClass RX2 = some m.cls := findClass_of_methodNamed B.named
  have hlocks := B.notSynchronized
  subst hsz
  have hD := hD0.self (sz := s.heap.size)
  generalize hAe : va_A (zzK ad cy (ad 11) (ad 18) iK lK aK iB lB aB iC aC) s.heap.size = A at hD ⊢
  have hA : ∀ q : Nat, s.heap.size ≤ q → A q := fun q h => by rw [← hAe]; exact Or.inr h
  have hS : va_S A s.heap s.heap [] := va_S.rf
  generalize hWQ : (zzK ad cy (ad 11) (ad 18) iK (us lK [(10, q.2.1), (11, q.2.2.1), (12, q.2.2.2.1)]) (us aK [(13, q.2.2.2.2)]) iB lB aB iC aC) = WQ
  generalize hQQ : MQ below (cQi (dC, dI) cy q.1 WQ A) args s 0 0 A = QQ
  have hl := lv_entry ([.ref (ad 0), .ref (ad 7), .int a2] : List Value) (n := 4) (Nat.le_of_ble_eq_true rfl)
  have hfr := lg_entry_eq m ([.ref (ad 0), .ref (ad 7), .int a2] : List Value) 4
  rw [← hav] at hfr
  rw [hfr]
  clear hfr hav
  generalize (lg_sl ([.ref (ad 0), .ref (ad 7), .int a2] : List Value) ++ List.replicate (4 - (lg_sl ([.ref (ad 0), .ref (ad 7), .int a2] : List Value)).length) Slot.unset).toArray = ls at hl ⊢
  have hl : lv_has ls 4 [(0, .ref (ad 0)), (1, .ref (ad 7)), (2, .int a2)] := hl
  refine (?_ : ∀ (H : Heap) (locs : List Loc), va_P (dC, dI) vwCl (zzK ad cy (ad 11) (ad 18) iK lK aK iB lB aB iC aC) H → va_D A (zzK ad cy (ad 11) (ad 18) iK lK aK iB lB aB iC aC) → va_S A s.heap H locs → W p l e ({ frames := 5, cells := 0, slots := 0, locals := 125 } : Room) s m args below meth c H locs 0 0 QQ (F0 m 0 ls [])) s.heap [] hP hD hS
  clear hP hD hS
  have B20 : ∀ (v2 : Int32) (v3 : Int32) (s2 : Int32) (x_lK10 : Nat → Int64) (x_lK11 : Nat → Int64) (x_lK12 : Nat → Int64) (x_aK13 : Nat → Int32) (k2 : Int32 → (Nat → Int64) → (Nat → Int64) → (Nat → Int64) → (Nat → Int32) → Option (Int32 × (Nat → Int64) × (Nat → Int64) × (Nat → Int64) × (Nat → Int32))) (hk2 : ∀ (v3' : Int32) (x_lK10' : Nat → Int64) (x_lK11' : Nat → Int64) (x_lK12' : Nat → Int64) (x_aK13' : Nat → Int32) (H : Heap) (locs : List Loc) (ls : Array Slot), k2 v3' x_lK10' x_lK11' x_lK12' x_aK13' = some q → va_P (dC, dI) vwCl (zzK ad cy (ad 11) (ad 18) iK (us lK [(10, x_lK10'), (11, x_lK11'), (12, x_lK12')]) (us aK [(13, x_aK13')]) iB lB aB iC aC) H → va_D A (zzK ad cy (ad 11) (ad 18) iK (us lK [(10, x_lK10'), (11, x_lK11'), (12, x_lK12')]) (us aK [(13, x_aK13')]) iB lB aB iC aC) → va_S A s.heap H locs → lv_has ls 4 [(0, .ref (ad 0)), (1, .ref (ad 7)), (2, .int v2), (3, .int v3')] → W p l e ({ frames := 5, cells := 0, slots := 0, locals := 125 } : Room) s m args below meth c H locs 0 0 QQ (F0 m 2 ls [])) (H : Heap) (locs : List Loc) (ls : Array Slot), f_K_settle_trial_20 N (iB 13) (iC 9) (aC 5) (iK 2) (iK 7) (lK 4) (lK 10) (lK 11) (lK 12) (aK 5) (aK 6) (aK 13) k2 v2 v3 s2 x_lK10 x_lK11 x_lK12 x_aK13 = some q → va_P (dC, dI) vwCl (zzK ad cy (ad 11) (ad 18) iK (us lK [(10, x_lK10), (11, x_lK11), (12, x_lK12)]) (us aK [(13, x_aK13)]) iB lB aB iC aC) H → va_D A (zzK ad cy (ad 11) (ad 18) iK (us lK [(10, x_lK10), (11, x_lK11), (12, x_lK12)]) (us aK [(13, x_aK13)]) iB lB aB iC aC) → va_S A s.heap H locs → lv_has ls 4 [(0, .ref (ad 0)), (1, .ref (ad 7)), (2, .int v2), (3, .int v3)] → W p l e ({ frames := 5, cells := 0, slots := 0, locals := 125 } : Room) s m args below meth c H locs 0 0 QQ (F0 m 20 ls [.int s2, .ref (ad 7), .ref (ad 0)]) := by
    intro v2 v3 s2 x_lK10 x_lK11 x_lK12 x_aK13 k2 hk2 H locs ls h hP hD hS hl
    unfold f_K_settle_trial_20 at h
    obtain ⟨q20, e20, h⟩ := g_b h
    refine callVis (cc := cX2_settle) (w1 := zzK ad cy (ad 11) (ad 18) iK (us lK [(10, q20.2.1), (11, q20.2.2.1), (12, q20.2.2.2.1)]) (us aK [(13, q20.2.2.2.2)]) iB lB aB iC aC) (As := [.ref (ad 7), .int s2]) (rest := []) ⟨hx, hb, hml, hown, hts⟩ (c_K_goRound_trial l dC dI cy ad H.size N s2 iK ((us lK [(10, x_lK10), (11, x_lK11), (12, x_lK12)])) ((us aK [(13, x_aK13)])) iB lB aB iC aC q20 e20) (cwV 2 hts (goodV m_ml_X2_163 m_im_X2_goRound m_se_X2_goRound m_in_X2 m_cd_X2_goRound) rfl rfl rfl (by decide +kernel) ⟨Nat.le_of_ble_eq_true rfl, Nat.le_of_ble_eq_true rfl⟩) hN hK hP hD hS hA rfl 0 rfl rfl rfl hl.1 rfl (Nat.le_of_ble_eq_true rfl) dX2_settle_20 ⟨Nat.zero_le _, Nat.zero_le _⟩ (fun H locs hP hD hS => ?_)
    refine lv_if_ne (tgt := 30) hx hb dX2_settle_23 (by decide) (fun cz => ?_) (fun cz => ?_)
    · have h := g_f h cz
      refine lv_iinc (v := (v3 + (1 : Int32))) (lv' := [(3, .int ((v3 + (1 : Int32)))), (0, .ref (ad 0)), (1, .ref (ad 7)), (2, .int v2)]) hx hb dX2_settle_30 hl (k := 3) rfl rfl (by decide) rfl (fun ls hl => ?_)
      refine lv_goto (tgt := 2) hx hb dX2_settle_33 (by decide) ?_
      exact hk2 ((v3 + (1 : Int32))) q20.2.1 q20.2.2.1 q20.2.2.2.1 q20.2.2.2.2 H locs ls h hP hD hS (lv_sub hl [1, 2, 3, 0] rfl)
    · have h := g_t h cz
      refine lv_iload_n hx hb dX2_settle_26 rfl (lv_at hl 3 rfl) ?_
      refine lv_iconst (v := 1) hx hb dX2_settle_27 (by decide) ?_
      refine lv_isub hx hb dX2_settle_28 ?_
      have h' := Option.some.inj h
      rw [← hQQ]
      exact W.iret (v := (v3 - (1 : Int32))) hx hb hr (fun t ht hW => ⟨⟨(v3 - (1 : Int32)), (), rfl, by rw [← h'], by rw [← hWQ, ← h', ht]; exact hP, va_K.moved hW.alike hK⟩, hS.F ht⟩) hS.2.2 dX2_settle_29
  have B2 : ∀ (n : Nat) (v2 : Int32) (v3 : Int32) (x_lK10 : Nat → Int64) (x_lK11 : Nat → Int64) (x_lK12 : Nat → Int64) (x_aK13 : Nat → Int32) (H : Heap) (locs : List Loc) (ls : Array Slot), f_K_settle_trial_2 N (iB 13) (iC 9) (aC 5) (iK 2) (iK 7) (lK 4) (lK 10) (lK 11) (lK 12) (aK 5) (aK 6) (aK 13) v2 n v3 x_lK10 x_lK11 x_lK12 x_aK13 = some q → va_P (dC, dI) vwCl (zzK ad cy (ad 11) (ad 18) iK (us lK [(10, x_lK10), (11, x_lK11), (12, x_lK12)]) (us aK [(13, x_aK13)]) iB lB aB iC aC) H → va_D A (zzK ad cy (ad 11) (ad 18) iK (us lK [(10, x_lK10), (11, x_lK11), (12, x_lK12)]) (us aK [(13, x_aK13)]) iB lB aB iC aC) → va_S A s.heap H locs → lv_has ls 4 [(0, .ref (ad 0)), (1, .ref (ad 7)), (2, .int v2), (3, .int v3)] → W p l e ({ frames := 5, cells := 0, slots := 0, locals := 125 } : Room) s m args below meth c H locs 0 0 QQ (F0 m 2 ls []) := by
    intro n
    induction n with
    | zero =>
      intro v2 v3 x_lK10 x_lK11 x_lK12 x_aK13 H locs ls h hP hD hS hl
      rw [f_K_settle_trial_2] at h
      cases h
    | succ n ih =>
      intro v2 v3 x_lK10 x_lK11 x_lK12 x_aK13 H locs ls h hP hD hS hl
      rw [f_K_settle_trial_2] at h
      refine lv_iload_n hx hb dX2_settle_2 rfl (lv_at hl 3 rfl) ?_
      refine lv_sipush (v := 512) hx hb dX2_settle_3 (by decide) ?_
      refine lv_icmp_gt (tgt := 36) hx hb dX2_settle_6 (by decide) (fun cz => ?_) (fun cz => ?_)
      · have h := g_t h cz
        refine lv_sipush (v := 512) hx hb dX2_settle_36 (by decide) ?_
        have h' := Option.some.inj h
        rw [← hQQ]
        exact W.iret (v := (512 : Int32)) hx hb hr (fun t ht hW => ⟨⟨(512 : Int32), (), rfl, by rw [← h'], by rw [← hWQ, ← h', ht]; exact hP, va_K.moved hW.alike hK⟩, hS.F ht⟩) hS.2.2 dX2_settle_39
      · have h := g_f h cz
        refine lv_aload_n hx hb dX2_settle_9 rfl (lv_at hl 0 rfl) ?_
        refine lv_aload_n hx hb dX2_settle_10 rfl (lv_at hl 1 rfl) ?_
        refine lv_iload_n hx hb dX2_settle_11 rfl (lv_at hl 2 rfl) ?_
        refine lv_if_eq (tgt := 19) hx hb dX2_settle_12 (by decide) (fun cz => ?_) (fun cz => ?_)
        · have h := g_t h cz
          refine lv_iconst (v := 0) hx hb dX2_settle_19 (by decide) ?_
          exact B20 v2 v3 ((0 : Int32)) x_lK10 x_lK11 x_lK12 x_aK13 (f_K_settle_trial_2 N (iB 13) (iC 9) (aC 5) (iK 2) (iK 7) (lK 4) (lK 10) (lK 11) (lK 12) (aK 5) (aK 6) (aK 13) v2 n) (ih v2) H locs ls h hP hD hS (lv_sub hl [0, 1, 2, 3] rfl)
        · have h := g_f h cz
          refine lv_iload_n hx hb dX2_settle_15 rfl (lv_at hl 3 rfl) ?_
          refine lv_goto (tgt := 20) hx hb dX2_settle_16 (by decide) ?_
          exact B20 v2 v3 v3 x_lK10 x_lK11 x_lK12 x_aK13 (f_K_settle_trial_2 N (iB 13) (iC 9) (aC 5) (iK 2) (iK 7) (lK 4) (lK 10) (lK 11) (lK 12) (aK 5) (aK 6) (aK 13) v2 n) (ih v2) H locs ls h hP hD hS (lv_sub hl [0, 1, 2, 3] rfl)
  intro H locs hP hD hS
  unfold f_K_settle_trial at h
  refine lv_iconst (v := 1) hx hb dX2_settle_0 (by decide) ?_
  refine lv_istore_n (lv' := [(3, .int ((1 : Int32))), (0, .ref (ad 0)), (1, .ref (ad 7)), (2, .int a2)]) hx hb dX2_settle_1 rfl hl (by decide) rfl (fun ls hl => ?_)
  exact B2 N a2 ((1 : Int32)) (lK 10) (lK 11) (lK 12) (aK 13) H locs ls h hP hD hS (lv_sub hl [1, 2, 3, 0] rfl)
set_option maxHeartbeats 8000000 in
set_option maxRecDepth 100000 in
theorem c_K_leastWhere_trial (l : Launch) (dC : Nat → ClassId) (dI : Nat → Nat → Nat) (cy : Nat → ClassId) (ad : Nat → Nat) (sz : Nat) (N : Nat) (a1 : Int32) (iK : Nat → Int32) (lK : Nat → Nat → Int64) (aK : Nat → Nat → Int32) (iB : Nat → Int32) (lB : Nat → Nat → Int64) (aB : Nat → Nat → Int32) (iC : Nat → Int32) (aC : Nat → Nat → Int32) (q : Int32) (h : f_K_leastWhere_trial N a1 (lK 3) (lK 10) = some q) : Met l yX2_leastWhere wsX2_leastWhere ({ frames := 2, cells := 0, slots := 0, locals := 42 } : Room) (cP (dC, dI) cy [.ref (ad 0), .int a1, .ref (ad 7)] (zzK ad cy (ad 11) (ad 18) iK lK aK iB lB aB iC aC) sz) (cQi (dC, dI) cy q (zzK ad cy (ad 11) (ad 18) iK lK aK iB lB aB iC aC) (va_A (zzK ad cy (ad 11) (ad 18) iK lK aK iB lB aB iC aC) sz)) 0 0 (va_A (zzK ad cy (ad 11) (ad 18) iK lK aK iB lB aB iC aC) sz) := by
  refine Met.ofW (cc := cX2_leastWhere) (maxL := 6) (ret := (some .int)) (by decide) rfl ?_
  intro p e s m args below meth c s₁ B hml hv
  obtain ⟨hav, hsz, hP, hK, hD0, hN⟩ := hv
  have hx := B.exec
  have hb := B.bytes
  have hr := B.returns
  have hts := atoms_spec (ws := wsX2_leastWhere) B.pre
  have hown : s.vm.findClass RX2 = some m.cls := findClass_of_methodNamed B.named
  have hlocks := B.notSynchronized
  subst hsz
  have hD := hD0.self (sz := s.heap.size)
  generalize hAe : va_A (zzK ad cy (ad 11) (ad 18) iK lK aK iB lB aB iC aC) s.heap.size = A at hD ⊢
  have hA : ∀ q : Nat, s.heap.size ≤ q → A q := fun q h => by rw [← hAe]; exact Or.inr h
  have hS : va_S A s.heap s.heap [] := va_S.rf
  generalize hWQ : (zzK ad cy (ad 11) (ad 18) iK lK aK iB lB aB iC aC) = WQ
  generalize hQQ : MQ below (cQi (dC, dI) cy q WQ A) args s 0 0 A = QQ
  have hl := lv_entry ([.ref (ad 0), .int a1, .ref (ad 7)] : List Value) (n := 6) (Nat.le_of_ble_eq_true rfl)
  have hfr := lg_entry_eq m ([.ref (ad 0), .int a1, .ref (ad 7)] : List Value) 6
  rw [← hav] at hfr
  rw [hfr]
  clear hfr hav
  generalize (lg_sl ([.ref (ad 0), .int a1, .ref (ad 7)] : List Value) ++ List.replicate (6 - (lg_sl ([.ref (ad 0), .int a1, .ref (ad 7)] : List Value)).length) Slot.unset).toArray = ls at hl ⊢
  have hl : lv_has ls 6 [(0, .ref (ad 0)), (1, .int a1), (2, .ref (ad 7))] := hl
  refine (?_ : ∀ (H : Heap) (locs : List Loc), va_P (dC, dI) vwCl (zzK ad cy (ad 11) (ad 18) iK lK aK iB lB aB iC aC) H → va_D A (zzK ad cy (ad 11) (ad 18) iK lK aK iB lB aB iC aC) → va_S A s.heap H locs → W p l e ({ frames := 2, cells := 0, slots := 0, locals := 42 } : Room) s m args below meth c H locs 0 0 QQ (F0 m 0 ls [])) s.heap [] hP hD hS
  clear hP hD hS
  have B2 : ∀ (n : Nat) (v1 : Int32) (v3 : Int32) (H : Heap) (locs : List Loc) (ls : Array Slot), f_K_leastWhere_trial_2 N (lK 3) (lK 10) v1 n v3 = some q → va_P (dC, dI) vwCl (zzK ad cy (ad 11) (ad 18) iK lK aK iB lB aB iC aC) H → va_D A (zzK ad cy (ad 11) (ad 18) iK lK aK iB lB aB iC aC) → va_S A s.heap H locs → lv_has ls 6 [(0, .ref (ad 0)), (1, .int v1), (2, .ref (ad 7)), (3, .int v3)] → W p l e ({ frames := 2, cells := 0, slots := 0, locals := 42 } : Room) s m args below meth c H locs 0 0 QQ (F0 m 2 ls []) := by
    intro n
    induction n with
    | zero =>
      intro v1 v3 H locs ls h hP hD hS hl
      rw [f_K_leastWhere_trial_2] at h
      cases h
    | succ n ih =>
      intro v1 v3 H locs ls h hP hD hS hl
      rw [f_K_leastWhere_trial_2] at h
      refine lv_iload_n hx hb dX2_leastWhere_2 rfl (lv_at hl 3 rfl) ?_
      refine lv_bipush (v := 8) hx hb dX2_leastWhere_3 (by decide) ?_
      refine lv_icmp_ge (tgt := 50) hx hb dX2_leastWhere_5 (by decide) (fun cz => ?_) (fun cz => ?_)
      · have h := g_t h cz
        refine lv_iconst (v := (-1)) hx hb dX2_leastWhere_50 (by decide) ?_
        have h' := Option.some.inj h
        rw [← hQQ]
        exact W.iret (v := (-1 : Int32)) hx hb hr (fun t ht hW => ⟨⟨(-1 : Int32), (), rfl, by rw [← h'], by rw [← hWQ, ht]; exact hP, va_K.moved hW.alike hK⟩, hS.F ht⟩) hS.2.2 dX2_leastWhere_51
      · have h := g_f h cz
        refine lv_iload_n hx hb dX2_leastWhere_8 rfl (lv_at hl 3 rfl) ?_
        refine lv_aload_n hx hb dX2_leastWhere_9 rfl (lv_at hl 2 rfl) ?_
        refine va_alen (v := (8 : Int32)) hx hb hK hP 7 2 rfl rfl rfl dX2_leastWhere_10 ?_
        refine lv_icmp_ge (tgt := 50) hx hb dX2_leastWhere_11 (by decide) (fun cz => ?_) (fun cz => ?_)
        · have h := g_t h cz
          refine lv_iconst (v := (-1)) hx hb dX2_leastWhere_50 (by decide) ?_
          have h' := Option.some.inj h
          rw [← hQQ]
          exact W.iret (v := (-1 : Int32)) hx hb hr (fun t ht hW => ⟨⟨(-1 : Int32), (), rfl, by rw [← h'], by rw [← hWQ, ht]; exact hP, va_K.moved hW.alike hK⟩, hS.F ht⟩) hS.2.2 dX2_leastWhere_51
        · have h := g_f h cz
          refine lv_aload_n hx hb dX2_leastWhere_14 rfl (lv_at hl 2 rfl) ?_
          refine lv_iload_n hx hb dX2_leastWhere_15 rfl (lv_at hl 3 rfl) ?_
          obtain ⟨g_22, h⟩ := g_n h
          refine va_lald (f := (lK 10)) hx hb hK hP 7 2 rfl rfl g_22 dX2_leastWhere_16 ?_
          refine lv_aload_n hx hb dX2_leastWhere_17 rfl (lv_at hl 0 rfl) ?_
          refine lv_iload_n hx hb dX2_leastWhere_18 rfl (lv_at hl 1 rfl) ?_
          refine lv_iload_n hx hb dX2_leastWhere_19 rfl (lv_at hl 3 rfl) ?_
          obtain ⟨q20, e20, h⟩ := g_b h
          refine callVls (cc := cX2_leastWhere) (w1 := zzK ad cy (ad 11) (ad 18) iK lK aK iB lB aB iC aC) (As := [.int v1, .int v3]) (rest := [.long (((lK 10) v3.toNatClampNeg))]) ⟨hx, hb, hml, hown, hts⟩ (c_K_truthOf l dC dI cy ad H.size v1 v3 iK lK aK iB lB aB iC aC q20 e20) (cwV 2 hts (goodV m_ml_X2_81 m_im_X2_truthOf m_se_X2_truthOf m_in_X2 m_cd_X2_truthOf) rfl rfl rfl (by decide +kernel) ⟨Nat.le_of_ble_eq_true rfl, Nat.le_of_ble_eq_true rfl⟩) hN hK hP hD hS hA rfl 0 rfl rfl rfl hl.1 rfl (Nat.le_of_ble_eq_true rfl) dX2_leastWhere_20 ⟨Nat.zero_le _, Nat.zero_le _⟩ (fun H locs hP hD hS => ?_)
          refine lv_land hx hb dX2_leastWhere_23 ?_
          refine lv_lstore (lv' := [(4, .long ((((lK 10) v3.toNatClampNeg) &&& q20))), (0, .ref (ad 0)), (1, .int v1), (2, .ref (ad 7)), (3, .int v3)]) hx hb dX2_leastWhere_24 hl (by decide) rfl (fun ls hl => ?_)
          refine lv_lload hx hb dX2_leastWhere_26 (lv_at hl 0 rfl) ?_
          refine lv_lconst (v := 0) hx hb dX2_leastWhere_28 (by decide) ?_
          refine W.lcmp hx hb dX2_leastWhere_29 ?_
          refine lv_if_eq (tgt := 44) hx hb dX2_leastWhere_30 (by decide) (fun cz => ?_) (fun cz => ?_)
          · have h := g_t h (lg_cmp0.mp cz)
            refine lv_iinc (v := (v3 + (1 : Int32))) (lv' := [(3, .int ((v3 + (1 : Int32)))), (4, .long ((((lK 10) v3.toNatClampNeg) &&& q20))), (0, .ref (ad 0)), (1, .int v1), (2, .ref (ad 7))]) hx hb dX2_leastWhere_44 hl (k := 4) rfl rfl (by decide) rfl (fun ls hl => ?_)
            refine lv_goto (tgt := 2) hx hb dX2_leastWhere_47 (by decide) ?_
            exact ih v1 ((v3 + (1 : Int32))) H locs ls h hP hD hS (lv_sub hl [2, 3, 4, 0] rfl)
          · have h := g_f h (fun z => cz (lg_cmp0.mpr z))
            refine lv_bipush (v := 64) hx hb dX2_leastWhere_33 (by decide) ?_
            refine lv_iload_n hx hb dX2_leastWhere_35 rfl (lv_at hl 4 rfl) ?_
            refine lv_imul hx hb dX2_leastWhere_36 ?_
            refine lv_lload hx hb dX2_leastWhere_37 (lv_at hl 0 rfl) ?_
            obtain ⟨q39, e39, h⟩ := g_b h
            refine callSi (cc := cX2_leastWhere) (ws' := zzK ad cy (ad 11) (ad 18) iK lK aK iB lB aB iC aC) (As := [.long ((((lK 10) v3.toNatClampNeg) &&& q20))]) (rest := [.int (((64 : Int32) * v3))]) ⟨hx, hb, hml, hown, hts⟩ (c_K_lowestBit l dC dI cy ad H.size ((((lK 10) v3.toNatClampNeg) &&& q20)) q39 e39) (va_cwS 1 hts (goodS m_ml_X2_180 m_st_X2_lowestBit m_in_X2 m_cd_X2_lowestBit) rfl rfl rfl (by decide +kernel) ⟨Nat.le_of_ble_eq_true rfl, Nat.le_of_ble_eq_true rfl⟩) hN hK hP hD hS hA [] [none, none, none, none, none, none, none, none, none, none, none, none, none, none, none, none, none, none, none, none, none, none, none, none, none, none, none] rfl rfl rfl rfl rfl rfl rfl hl.1 rfl (Nat.le_of_ble_eq_true rfl) dX2_leastWhere_39 ⟨Nat.zero_le _, Nat.zero_le _⟩ (fun H locs hP hD hS => ?_)
            refine lv_iadd hx hb dX2_leastWhere_42 ?_
            have h' := Option.some.inj h
            rw [← hQQ]
            exact W.iret (v := (((64 : Int32) * v3) + q39)) hx hb hr (fun t ht hW => ⟨⟨(((64 : Int32) * v3) + q39), (), rfl, by rw [← h'], by rw [← hWQ, ht]; exact hP, va_K.moved hW.alike hK⟩, hS.F ht⟩) hS.2.2 dX2_leastWhere_43
  intro H locs hP hD hS
  unfold f_K_leastWhere_trial at h
  refine lv_iconst (v := 0) hx hb dX2_leastWhere_0 (by decide) ?_
  refine lv_istore_n (lv' := [(3, .int ((0 : Int32))), (0, .ref (ad 0)), (1, .int a1), (2, .ref (ad 7))]) hx hb dX2_leastWhere_1 rfl hl (by decide) rfl (fun ls hl => ?_)
  exact B2 N a1 ((0 : Int32)) H locs ls h hP hD hS (lv_sub hl [1, 2, 3, 0] rfl)
set_option maxHeartbeats 8000000 in
set_option maxRecDepth 100000 in
theorem c_K_rulesThatForbid (l : Launch) (dC : Nat → ClassId) (dI : Nat → Nat → Nat) (cy : Nat → ClassId) (ad : Nat → Nat) (sz : Nat) (N : Nat) (a1 : Int32) (iK : Nat → Int32) (lK : Nat → Nat → Int64) (aK : Nat → Nat → Int32) (iB : Nat → Int32) (lB : Nat → Nat → Int64) (aB : Nat → Nat → Int32) (iC : Nat → Int32) (aC : Nat → Nat → Int32) (q : Int32 × (Nat → Int64) × (Nat → Int64) × (Nat → Int64) × (Nat → Int32)) (h : f_K_rulesThatForbid N a1 (iB 9) (iB 13) (aB 8) (iC 9) (aC 5) (iK 2) (iK 7) (lK 3) (lK 4) (lK 9) (lK 10) (lK 11) (lK 12) (aK 5) (aK 6) (aK 13) = some q) : Met l yX2_rulesThatForbid wsX2_rulesThatForbid ({ frames := 6, cells := 0, slots := 0, locals := 148 } : Room) (cP (dC, dI) cy [.ref (ad 0), .int a1] (zzK ad cy (ad 11) (ad 18) iK lK aK iB lB aB iC aC) sz) (cQi (dC, dI) cy q.1 (zzK ad cy (ad 11) (ad 18) iK (us lK [(10, q.2.1), (11, q.2.2.1), (12, q.2.2.2.1)]) (us aK [(13, q.2.2.2.2)]) iB lB aB iC aC) (va_A (zzK ad cy (ad 11) (ad 18) iK lK aK iB lB aB iC aC) sz)) 0 0 (va_A (zzK ad cy (ad 11) (ad 18) iK lK aK iB lB aB iC aC) sz) := by
  refine Met.ofW (cc := cX2_rulesThatForbid) (maxL := 5) (ret := (some .int)) (by decide) rfl ?_
  intro p e s m args below meth c s₁ B hml hv
  obtain ⟨hav, hsz, hP, hK, hD0, hN⟩ := hv
  have hx := B.exec
  have hb := B.bytes
  have hr := B.returns
  have hts := atoms_spec (ws := wsX2_rulesThatForbid) B.pre
  have hown : s.vm.findClass RX2 = some m.cls := findClass_of_methodNamed B.named
  have hlocks := B.notSynchronized
  subst hsz
  have hD := hD0.self (sz := s.heap.size)
  generalize hAe : va_A (zzK ad cy (ad 11) (ad 18) iK lK aK iB lB aB iC aC) s.heap.size = A at hD ⊢
  have hA : ∀ q : Nat, s.heap.size ≤ q → A q := fun q h => by rw [← hAe]; exact Or.inr h
  have hS : va_S A s.heap s.heap [] := va_S.rf
  generalize hWQ : (zzK ad cy (ad 11) (ad 18) iK (us lK [(10, q.2.1), (11, q.2.2.1), (12, q.2.2.2.1)]) (us aK [(13, q.2.2.2.2)]) iB lB aB iC aC) = WQ
  generalize hQQ : MQ below (cQi (dC, dI) cy q.1 WQ A) args s 0 0 A = QQ
  have hl := lv_entry ([.ref (ad 0), .int a1] : List Value) (n := 5) (Nat.le_of_ble_eq_true rfl)
  have hfr := lg_entry_eq m ([.ref (ad 0), .int a1] : List Value) 5
  rw [← hav] at hfr
  rw [hfr]
  clear hfr hav
  generalize (lg_sl ([.ref (ad 0), .int a1] : List Value) ++ List.replicate (5 - (lg_sl ([.ref (ad 0), .int a1] : List Value)).length) Slot.unset).toArray = ls at hl ⊢
  have hl : lv_has ls 5 [(0, .ref (ad 0)), (1, .int a1)] := hl
  have kf44 := hts _ (List.mem_cons_of_mem _ m_fl_X2_44)
  have ki2 := (fun w h => List.mem_cons_of_mem _ (i_X2 w h) : ∀ w ∈ u_ws RX2 TX2 15, w ∈ wsX2_rulesThatForbid)
  have kf93 := hts _ (List.mem_cons_of_mem _ m_fl_X2_93)
  have ki0 := (fun w h => List.mem_cons_of_mem _ (i_X0 w h) : ∀ w ∈ u_ws RX0 TX0 15, w ∈ wsX2_rulesThatForbid)
  have kf31 := hts _ (List.mem_cons_of_mem _ m_fl_X2_31)
  have kf28 := hts _ (List.mem_cons_of_mem _ m_fl_X2_28)
  refine (?_ : ∀ (H : Heap) (locs : List Loc), va_P (dC, dI) vwCl (zzK ad cy (ad 11) (ad 18) iK lK aK iB lB aB iC aC) H → va_D A (zzK ad cy (ad 11) (ad 18) iK lK aK iB lB aB iC aC) → va_S A s.heap H locs → W p l e ({ frames := 6, cells := 0, slots := 0, locals := 148 } : Room) s m args below meth c H locs 0 0 QQ (F0 m 0 ls [])) s.heap [] hP hD hS
  clear hP hD hS
  have B29 : ∀ (n : Nat) (v1 : Int32) (v2 : Int32) (v3 : Int32) (x_lK10 : Nat → Int64) (x_lK11 : Nat → Int64) (x_lK12 : Nat → Int64) (x_aK13 : Nat → Int32) (H : Heap) (locs : List Loc) (ls : Array Slot), f_K_rulesThatForbid_29 N (iB 9) (iB 13) (aB 8) (iC 9) (aC 5) (iK 2) (iK 7) (lK 3) (lK 4) (lK 9) (lK 10) (lK 11) (lK 12) (aK 5) (aK 6) (aK 13) v1 n v2 v3 x_lK10 x_lK11 x_lK12 x_aK13 = some q → va_P (dC, dI) vwCl (zzK ad cy (ad 11) (ad 18) iK (us lK [(10, x_lK10), (11, x_lK11), (12, x_lK12)]) (us aK [(13, x_aK13)]) iB lB aB iC aC) H → va_D A (zzK ad cy (ad 11) (ad 18) iK (us lK [(10, x_lK10), (11, x_lK11), (12, x_lK12)]) (us aK [(13, x_aK13)]) iB lB aB iC aC) → va_S A s.heap H locs → lv_has ls 5 [(0, .ref (ad 0)), (1, .int v1), (2, .int v2), (3, .int v3)] → W p l e ({ frames := 6, cells := 0, slots := 0, locals := 148 } : Room) s m args below meth c H locs 0 0 QQ (F0 m 29 ls []) := by
    intro n
    induction n with
    | zero =>
      intro v1 v2 v3 x_lK10 x_lK11 x_lK12 x_aK13 H locs ls h hP hD hS hl
      rw [f_K_rulesThatForbid_29] at h
      cases h
    | succ n ih =>
      intro v1 v2 v3 x_lK10 x_lK11 x_lK12 x_aK13 H locs ls h hP hD hS hl
      rw [f_K_rulesThatForbid_29] at h
      refine lv_iload_n hx hb dX2_rulesThatForbid_29 rfl (lv_at hl 3 rfl) ?_
      refine lv_aload_n hx hb dX2_rulesThatForbid_30 rfl (lv_at hl 0 rfl) ?_
      refine va_get (D := (dC, dI)) (ci := 2) (v := .ref (ad 11)) (C := RX2) (T := TX2) (N := 15) hx hb hts ki2 hown hK hP 0 rfl rfl 0 (by decide) kf44 (fun _ h9 => h9) rfl dX2_rulesThatForbid_31 ?_
      refine va_get (D := (dC, dI)) (ci := 0) (v := .int (iB 9)) (C := RX0) (T := TX0) (N := 15) hx hb hts ki0 hown hK hP 11 rfl rfl 9 (by decide) kf93 (fun _ h9 => h9) rfl dX2_rulesThatForbid_34 ?_
      refine lv_icmp_ge (tgt := 91) hx hb dX2_rulesThatForbid_37 (by decide) (fun cz => ?_) (fun cz => ?_)
      · have h := g_t h cz
        refine lv_iload_n hx hb dX2_rulesThatForbid_91 rfl (lv_at hl 2 rfl) ?_
        have h' := Option.some.inj h
        rw [← hQQ]
        exact W.iret (v := v2) hx hb hr (fun t ht hW => ⟨⟨v2, (), rfl, by rw [← h'], by rw [← hWQ, ← h', ht]; exact hP, va_K.moved hW.alike hK⟩, hS.F ht⟩) hS.2.2 dX2_rulesThatForbid_92
      · have h := g_f h cz
        refine lv_iload_n hx hb dX2_rulesThatForbid_40 rfl (lv_at hl 2 rfl) ?_
        refine lv_iconst (v := 1) hx hb dX2_rulesThatForbid_41 (by decide) ?_
        refine lv_iload_n hx hb dX2_rulesThatForbid_42 rfl (lv_at hl 3 rfl) ?_
        refine lv_ishl hx hb dX2_rulesThatForbid_43 ?_
        refine lv_iconst (v := (-1)) hx hb dX2_rulesThatForbid_44 (by decide) ?_
        refine lv_ixor hx hb dX2_rulesThatForbid_45 ?_
        refine lv_iand hx hb dX2_rulesThatForbid_46 ?_
        refine lv_istore (lv' := [(4, .int ((v2 &&& (((1 : Int32) <<< (v3 &&& 31)) ^^^ (-1 : Int32))))), (0, .ref (ad 0)), (1, .int v1), (2, .int v2), (3, .int v3)]) hx hb dX2_rulesThatForbid_47 hl (by decide) rfl (fun ls hl => ?_)
        refine lv_aload_n hx hb dX2_rulesThatForbid_49 rfl (lv_at hl 1 rfl) ?_
        refine lv_iload hx hb dX2_rulesThatForbid_50 (lv_at hl 0 rfl) ?_
        refine lv_aload_n hx hb dX2_rulesThatForbid_52 rfl (lv_at hl 1 rfl) ?_
        refine va_get (D := (dC, dI)) (ci := 2) (v := .ref (ad 7)) (C := RX2) (T := TX2) (N := 15) hx hb hts ki2 hown hK hP 0 rfl rfl 10 (by decide) kf31 (fun _ h9 => h9) rfl dX2_rulesThatForbid_53 ?_
        obtain ⟨q56, e56, h⟩ := g_b h
        refine callVvs (cc := cX2_rulesThatForbid) (w1 := zzK ad cy (ad 11) (ad 18) iK (us lK [(10, q56), (11, x_lK11), (12, x_lK12)]) (us aK [(13, x_aK13)]) iB lB aB iC aC) (As := [.int ((v2 &&& (((1 : Int32) <<< (v3 &&& 31)) ^^^ (-1 : Int32)))), .ref (ad 7)]) (rest := []) ⟨hx, hb, hml, hown, hts⟩ (c_K_takeFair_trial l dC dI cy ad H.size N ((v2 &&& (((1 : Int32) <<< (v3 &&& 31)) ^^^ (-1 : Int32)))) iK ((us lK [(10, x_lK10), (11, x_lK11), (12, x_lK12)])) ((us aK [(13, x_aK13)])) iB lB aB iC aC q56 e56) (cwV 2 hts (goodV m_ml_X2_96 m_im_X2_takeFair m_se_X2_takeFair m_in_X2 m_cd_X2_takeFair) rfl rfl rfl (by decide +kernel) ⟨Nat.le_of_ble_eq_true rfl, Nat.le_of_ble_eq_true rfl⟩) hN hK hP hD hS hA rfl 0 rfl rfl rfl hl.1 rfl (Nat.le_of_ble_eq_true rfl) dX2_rulesThatForbid_56 ⟨Nat.zero_le _, Nat.zero_le _⟩ (fun H locs hP hD hS => ?_)
        refine lv_aload_n hx hb dX2_rulesThatForbid_59 rfl (lv_at hl 1 rfl) ?_
        refine lv_aload_n hx hb dX2_rulesThatForbid_60 rfl (lv_at hl 1 rfl) ?_
        refine va_get (D := (dC, dI)) (ci := 2) (v := .ref (ad 7)) (C := RX2) (T := TX2) (N := 15) hx hb hts ki2 hown hK hP 0 rfl rfl 10 (by decide) kf31 (fun _ h9 => h9) rfl dX2_rulesThatForbid_61 ?_
        refine lv_iconst (v := 0) hx hb dX2_rulesThatForbid_64 (by decide) ?_
        obtain ⟨q65, e65, h⟩ := g_b h
        refine callVis (cc := cX2_rulesThatForbid) (w1 := zzK ad cy (ad 11) (ad 18) iK (us lK [(10, q65.2.1), (11, q65.2.2.1), (12, q65.2.2.2.1)]) (us aK [(13, q65.2.2.2.2)]) iB lB aB iC aC) (As := [.ref (ad 7), .int ((0 : Int32))]) (rest := []) ⟨hx, hb, hml, hown, hts⟩ (c_K_settle_trial l dC dI cy ad H.size N ((0 : Int32)) iK ((us lK [(10, q56), (11, x_lK11), (12, x_lK12)])) ((us aK [(13, x_aK13)])) iB lB aB iC aC q65 e65) (cwV 2 hts (goodV m_ml_X2_110 m_im_X2_settle m_se_X2_settle m_in_X2 m_cd_X2_settle) rfl rfl rfl (by decide +kernel) ⟨Nat.le_of_ble_eq_true rfl, Nat.le_of_ble_eq_true rfl⟩) hN hK hP hD hS hA rfl 0 rfl rfl rfl hl.1 rfl (Nat.le_of_ble_eq_true rfl) dX2_rulesThatForbid_65 ⟨Nat.zero_le _, Nat.zero_le _⟩ (fun H locs hP hD hS => ?_)
        refine lv_pop hx hb dX2_rulesThatForbid_68 rfl ?_
        refine lv_aload_n hx hb dX2_rulesThatForbid_69 rfl (lv_at hl 1 rfl) ?_
        refine lv_iload_n hx hb dX2_rulesThatForbid_70 rfl (lv_at hl 2 rfl) ?_
        refine lv_aload_n hx hb dX2_rulesThatForbid_71 rfl (lv_at hl 1 rfl) ?_
        refine va_get (D := (dC, dI)) (ci := 2) (v := .ref (ad 7)) (C := RX2) (T := TX2) (N := 15) hx hb hts ki2 hown hK hP 0 rfl rfl 10 (by decide) kf31 (fun _ h9 => h9) rfl dX2_rulesThatForbid_72 ?_
        obtain ⟨q75, e75, h⟩ := g_b h
        refine callVis (cc := cX2_rulesThatForbid) (w1 := zzK ad cy (ad 11) (ad 18) iK (us lK [(10, q65.2.1), (11, q65.2.2.1), (12, q65.2.2.2.1)]) (us aK [(13, q65.2.2.2.2)]) iB lB aB iC aC) (As := [.int v1, .ref (ad 7)]) (rest := []) ⟨hx, hb, hml, hown, hts⟩ (c_K_leastWhere_trial l dC dI cy ad H.size N v1 iK ((us lK [(10, q65.2.1), (11, q65.2.2.1), (12, q65.2.2.2.1)])) ((us aK [(13, q65.2.2.2.2)])) iB lB aB iC aC q75 e75) (cwV 2 hts (goodV m_ml_X2_184 m_im_X2_leastWhere m_se_X2_leastWhere m_in_X2 m_cd_X2_leastWhere) rfl rfl rfl (by decide +kernel) ⟨Nat.le_of_ble_eq_true rfl, Nat.le_of_ble_eq_true rfl⟩) hN hK hP hD hS hA rfl 0 rfl rfl rfl hl.1 rfl (Nat.le_of_ble_eq_true rfl) dX2_rulesThatForbid_75 ⟨Nat.zero_le _, Nat.zero_le _⟩ (fun H locs hP hD hS => ?_)
        refine lv_iconst (v := (-1)) hx hb dX2_rulesThatForbid_78 (by decide) ?_
        refine lv_icmp_ne (tgt := 85) hx hb dX2_rulesThatForbid_79 (by decide) (fun cz => ?_) (fun cz => ?_)
        · have h := g_f h cz
          refine lv_iinc (v := (v3 + (1 : Int32))) (lv' := [(3, .int ((v3 + (1 : Int32)))), (4, .int ((v2 &&& (((1 : Int32) <<< (v3 &&& 31)) ^^^ (-1 : Int32))))), (0, .ref (ad 0)), (1, .int v1), (2, .int v2)]) hx hb dX2_rulesThatForbid_85 hl (k := 4) rfl rfl (by decide) rfl (fun ls hl => ?_)
          refine lv_goto (tgt := 29) hx hb dX2_rulesThatForbid_88 (by decide) ?_
          exact ih v1 v2 ((v3 + (1 : Int32))) q65.2.1 q65.2.2.1 q65.2.2.2.1 q65.2.2.2.2 H locs ls h hP hD hS (lv_sub hl [2, 3, 4, 0] rfl)
        · have h := g_t h cz
          refine lv_iload hx hb dX2_rulesThatForbid_82 (lv_at hl 0 rfl) ?_
          refine lv_istore_n (lv' := [(2, .int ((v2 &&& (((1 : Int32) <<< (v3 &&& 31)) ^^^ (-1 : Int32))))), (4, .int ((v2 &&& (((1 : Int32) <<< (v3 &&& 31)) ^^^ (-1 : Int32))))), (0, .ref (ad 0)), (1, .int v1), (3, .int v3)]) hx hb dX2_rulesThatForbid_84 rfl hl (by decide) rfl (fun ls hl => ?_)
          refine lv_iinc (v := (v3 + (1 : Int32))) (lv' := [(3, .int ((v3 + (1 : Int32)))), (2, .int ((v2 &&& (((1 : Int32) <<< (v3 &&& 31)) ^^^ (-1 : Int32))))), (4, .int ((v2 &&& (((1 : Int32) <<< (v3 &&& 31)) ^^^ (-1 : Int32))))), (0, .ref (ad 0)), (1, .int v1)]) hx hb dX2_rulesThatForbid_85 hl (k := 4) rfl rfl (by decide) rfl (fun ls hl => ?_)
          refine lv_goto (tgt := 29) hx hb dX2_rulesThatForbid_88 (by decide) ?_
          exact ih v1 ((v2 &&& (((1 : Int32) <<< (v3 &&& 31)) ^^^ (-1 : Int32)))) ((v3 + (1 : Int32))) q65.2.1 q65.2.2.1 q65.2.2.2.1 q65.2.2.2.2 H locs ls h hP hD hS (lv_sub hl [3, 4, 1, 0] rfl)
  intro H locs hP hD hS
  unfold f_K_rulesThatForbid at h
  refine lv_aload_n hx hb dX2_rulesThatForbid_0 rfl (lv_at hl 0 rfl) ?_
  refine lv_iload_n hx hb dX2_rulesThatForbid_1 rfl (lv_at hl 1 rfl) ?_
  refine lv_aload_n hx hb dX2_rulesThatForbid_2 rfl (lv_at hl 0 rfl) ?_
  refine va_get (D := (dC, dI)) (ci := 2) (v := .ref (ad 6)) (C := RX2) (T := TX2) (N := 15) hx hb hts ki2 hown hK hP 0 rfl rfl 9 (by decide) kf28 (fun _ h9 => h9) rfl dX2_rulesThatForbid_3 ?_
  obtain ⟨q6, e6, h⟩ := g_b h
  refine callVis (cc := cX2_rulesThatForbid) (w1 := zzK ad cy (ad 11) (ad 18) iK lK aK iB lB aB iC aC) (As := [.int a1, .ref (ad 6)]) (rest := []) ⟨hx, hb, hml, hown, hts⟩ (c_K_leastWhere_standing l dC dI cy ad H.size N a1 iK lK aK iB lB aB iC aC q6 e6) (cwV 2 hts (goodV m_ml_X2_184 m_im_X2_leastWhere m_se_X2_leastWhere m_in_X2 m_cd_X2_leastWhere) rfl rfl rfl (by decide +kernel) ⟨Nat.le_of_ble_eq_true rfl, Nat.le_of_ble_eq_true rfl⟩) hN hK hP hD hS hA rfl 0 rfl rfl rfl hl.1 rfl (Nat.le_of_ble_eq_true rfl) dX2_rulesThatForbid_6 ⟨Nat.zero_le _, Nat.zero_le _⟩ (fun H locs hP hD hS => ?_)
  refine lv_iconst (v := (-1)) hx hb dX2_rulesThatForbid_9 (by decide) ?_
  refine lv_icmp_eq (tgt := 15) hx hb dX2_rulesThatForbid_10 (by decide) (fun cz => ?_) (fun cz => ?_)
  · have h := g_t h cz
    refine lv_iconst (v := 1) hx hb dX2_rulesThatForbid_15 (by decide) ?_
    refine lv_aload_n hx hb dX2_rulesThatForbid_16 rfl (lv_at hl 0 rfl) ?_
    refine va_get (D := (dC, dI)) (ci := 2) (v := .ref (ad 11)) (C := RX2) (T := TX2) (N := 15) hx hb hts ki2 hown hK hP 0 rfl rfl 0 (by decide) kf44 (fun _ h9 => h9) rfl dX2_rulesThatForbid_17 ?_
    refine va_get (D := (dC, dI)) (ci := 0) (v := .int (iB 9)) (C := RX0) (T := TX0) (N := 15) hx hb hts ki0 hown hK hP 11 rfl rfl 9 (by decide) kf93 (fun _ h9 => h9) rfl dX2_rulesThatForbid_20 ?_
    refine lv_ishl hx hb dX2_rulesThatForbid_23 ?_
    refine lv_iconst (v := 1) hx hb dX2_rulesThatForbid_24 (by decide) ?_
    refine lv_isub hx hb dX2_rulesThatForbid_25 ?_
    refine lv_istore_n (lv' := [(2, .int ((((1 : Int32) <<< ((iB 9) &&& 31)) - (1 : Int32)))), (0, .ref (ad 0)), (1, .int a1)]) hx hb dX2_rulesThatForbid_26 rfl hl (by decide) rfl (fun ls hl => ?_)
    refine lv_iconst (v := 0) hx hb dX2_rulesThatForbid_27 (by decide) ?_
    refine lv_istore_n (lv' := [(3, .int ((0 : Int32))), (2, .int ((((1 : Int32) <<< ((iB 9) &&& 31)) - (1 : Int32)))), (0, .ref (ad 0)), (1, .int a1)]) hx hb dX2_rulesThatForbid_28 rfl hl (by decide) rfl (fun ls hl => ?_)
    exact B29 N a1 ((((1 : Int32) <<< ((iB 9) &&& 31)) - (1 : Int32))) ((0 : Int32)) (lK 10) (lK 11) (lK 12) (aK 13) H locs ls h hP hD hS (lv_sub hl [2, 3, 1, 0] rfl)
  · have h := g_f h cz
    refine lv_iconst (v := (-1)) hx hb dX2_rulesThatForbid_13 (by decide) ?_
    have h' := Option.some.inj h
    rw [← hQQ]
    exact W.iret (v := (-1 : Int32)) hx hb hr (fun t ht hW => ⟨⟨(-1 : Int32), (), rfl, by rw [← h'], by rw [← hWQ, ← h', ht]; exact hP, va_K.moved hW.alike hK⟩, hS.F ht⟩) hS.2.2 dX2_rulesThatForbid_14
set_option maxHeartbeats 8000000 in
set_option maxRecDepth 100000 in
theorem c_X_bones (l : Launch) (dC : Nat → ClassId) (dI : Nat → Nat → Nat) (cy : Nat → ClassId) (ad : Nat → Nat) (sz : Nat) (rb : Nat) (rc : Nat) (pb : Nat) (N : Nat) (a1 : Int32) (iX : Nat → Int32) (iR : Nat → Int32) (iT : Nat → Int32) (wT : Int64) (tx : Nat → Int32) (iB : Nat → Int32) (lB : Nat → Nat → Int64) (aB : Nat → Nat → Int32) (iC : Nat → Int32) (aC : Nat → Nat → Int32) (iD : Nat → Int32) (lD : Nat → Nat → Int64) (aD : Nat → Nat → Int32) (iE : Nat → Int32) (aE : Nat → Nat → Int32) (iK : Nat → Int32) (lK : Nat → Nat → Int64) (aK : Nat → Nat → Int32) (iW : Nat → Int32) (aW : Nat → Nat → Int32) (iP : Nat → Int32) (aP : Nat → Nat → Int32) (q : Int32 × (Nat → Int64) × (Nat → Int64) × (Nat → Int64) × (Nat → Int32)) (h : f_X_bones N a1 (iX 5) (iB 9) (iB 11) (iB 13) (aB 8) (aB 10) (iC 9) (aC 5) (iK 2) (iK 7) (lK 3) (lK 4) (lK 9) (lK 10) (lK 11) (lK 12) (aK 5) (aK 6) (aK 13) = some q) : Met l yX7_bones wsX7_bones ({ frames := 7, cells := 0, slots := 0, locals := 172 } : Room) (cP (dC, dI) cy [.ref (ad 0), .int a1] (zzX ad cy rb rc (ad 4) (ad 11) pb (ad 4) (ad 20) iX iR iT wT tx iB lB aB iC aC iD lD aD iE aE iK lK aK iW aW iP aP) sz) (cQi (dC, dI) cy q.1 (zzX ad cy rb rc (ad 4) (ad 11) pb (ad 4) (ad 20) iX iR iT wT tx iB lB aB iC aC iD lD aD iE aE iK (us lK [(10, q.2.1), (11, q.2.2.1), (12, q.2.2.2.1)]) (us aK [(13, q.2.2.2.2)]) iW aW iP aP) (va_A (zzX ad cy rb rc (ad 4) (ad 11) pb (ad 4) (ad 20) iX iR iT wT tx iB lB aB iC aC iD lD aD iE aE iK lK aK iW aW iP aP) sz)) 0 0 (va_A (zzX ad cy rb rc (ad 4) (ad 11) pb (ad 4) (ad 20) iX iR iT wT tx iB lB aB iC aC iD lD aD iE aE iK lK aK iW aW iP aP) sz) := by
  refine Met.ofW (cc := cX7_bones) (maxL := 2) (ret := (some .int)) (by decide) rfl ?_
  intro p e s m args below meth c s₁ B hml hv
  obtain ⟨hav, hsz, hP, hK, hD0, hN⟩ := hv
  have hx := B.exec
  have hb := B.bytes
  have hr := B.returns
  have hts := atoms_spec (ws := wsX7_bones) B.pre
  have hown : s.vm.findClass RX7 = some m.cls := findClass_of_methodNamed B.named
  have hlocks := B.notSynchronized
  subst hsz
  have hD := hD0.self (sz := s.heap.size)
  generalize hAe : va_A (zzX ad cy rb rc (ad 4) (ad 11) pb (ad 4) (ad 20) iX iR iT wT tx iB lB aB iC aC iD lD aD iE aE iK lK aK iW aW iP aP) s.heap.size = A at hD ⊢
  have hA : ∀ q : Nat, s.heap.size ≤ q → A q := fun q h => by rw [← hAe]; exact Or.inr h
  have hS : va_S A s.heap s.heap [] := va_S.rf
  generalize hWQ : (zzX ad cy rb rc (ad 4) (ad 11) pb (ad 4) (ad 20) iX iR iT wT tx iB lB aB iC aC iD lD aD iE aE iK (us lK [(10, q.2.1), (11, q.2.2.1), (12, q.2.2.2.1)]) (us aK [(13, q.2.2.2.2)]) iW aW iP aP) = WQ
  generalize hQQ : MQ below (cQi (dC, dI) cy q.1 WQ A) args s 0 0 A = QQ
  have hl := lv_entry ([.ref (ad 0), .int a1] : List Value) (n := 2) (Nat.le_of_ble_eq_true rfl)
  have hfr := lg_entry_eq m ([.ref (ad 0), .int a1] : List Value) 2
  rw [← hav] at hfr
  rw [hfr]
  clear hfr hav
  generalize (lg_sl ([.ref (ad 0), .int a1] : List Value) ++ List.replicate (2 - (lg_sl ([.ref (ad 0), .int a1] : List Value)).length) Slot.unset).toArray = ls at hl ⊢
  have hl : lv_has ls 2 [(0, .ref (ad 0)), (1, .int a1)] := hl
  have kf70 := hts _ (List.mem_cons_of_mem _ m_fl_X7_70)
  have ki7 := (fun w h => List.mem_cons_of_mem _ (i_X7 w h) : ∀ w ∈ u_ws RX7 TX7 9, w ∈ wsX7_bones)
  have kf37 := hts _ (List.mem_cons_of_mem _ m_fl_X7_37)
  have kf16 := hts _ (List.mem_cons_of_mem _ m_fl_X7_16)
  refine (?_ : ∀ (H : Heap) (locs : List Loc), va_P (dC, dI) vwCl (zzX ad cy rb rc (ad 4) (ad 11) pb (ad 4) (ad 20) iX iR iT wT tx iB lB aB iC aC iD lD aD iE aE iK lK aK iW aW iP aP) H → va_D A (zzX ad cy rb rc (ad 4) (ad 11) pb (ad 4) (ad 20) iX iR iT wT tx iB lB aB iC aC iD lD aD iE aE iK lK aK iW aW iP aP) → va_S A s.heap H locs → W p l e ({ frames := 7, cells := 0, slots := 0, locals := 172 } : Room) s m args below meth c H locs 0 0 QQ (F0 m 0 ls [])) s.heap [] hP hD hS
  clear hP hD hS
  intro H locs hP hD hS
  unfold f_X_bones at h
  refine lv_aload_n hx hb dX7_bones_0 rfl (lv_at hl 0 rfl) ?_
  refine va_get (D := (dC, dI)) (ci := 7) (v := .int (iX 5)) (C := RX7) (T := TX7) (N := 9) hx hb hts ki7 hown hK hP 0 rfl rfl 5 (by decide) kf70 (fun _ h9 => h9) rfl dX7_bones_1 ?_
  refine lv_if_ne (tgt := 10) hx hb dX7_bones_4 (by decide) (fun cz => ?_) (fun cz => ?_)
  · have h := g_f h cz
    refine lv_aload_n hx hb dX7_bones_10 rfl (lv_at hl 0 rfl) ?_
    refine lv_iload_n hx hb dX7_bones_11 rfl (lv_at hl 1 rfl) ?_
    obtain ⟨q12, e12, h⟩ := g_b h
    refine callVis (cc := cX7_bones) (w1 := zzX ad cy rb rc (ad 4) (ad 11) pb (ad 4) (ad 20) iX iR iT wT tx iB lB aB iC aC iD lD aD iE aE iK lK aK iW aW iP aP) (As := [.int a1]) (rest := []) ⟨hx, hb, hml, hown, hts⟩ (c_X_isQuestion l dC dI cy ad H.size rb rc pb a1 iX iR iT wT tx iB lB aB iC aC iD lD aD iE aE iK lK aK iW aW iP aP q12 e12) (cwV 1 hts (goodV m_ml_X7_152 m_im_X7_isQuestion m_se_X7_isQuestion m_in_X7 m_cd_X7_isQuestion) rfl rfl rfl (by decide +kernel) ⟨Nat.le_of_ble_eq_true rfl, Nat.le_of_ble_eq_true rfl⟩) hN hK hP hD hS hA rfl 0 rfl rfl rfl hl.1 rfl (Nat.le_of_ble_eq_true rfl) dX7_bones_12 ⟨Nat.zero_le _, Nat.zero_le _⟩ (fun H locs hP hD hS => ?_)
    refine lv_if_eq (tgt := 36) hx hb dX7_bones_15 (by decide) (fun cz => ?_) (fun cz => ?_)
    · have h := g_t h cz
      refine lv_bipush (v := (-102)) hx hb dX7_bones_36 (by decide) ?_
      have h' := Option.some.inj h
      rw [← hQQ]
      exact W.iret (v := (-102 : Int32)) hx hb hr (fun t ht hW => ⟨⟨(-102 : Int32), (), rfl, by rw [← h'], by rw [← hWQ, ← h', ht]; exact hP, va_K.moved hW.alike hK⟩, hS.F ht⟩) hS.2.2 dX7_bones_38
    · have h := g_f h cz
      refine lv_aload_n hx hb dX7_bones_18 rfl (lv_at hl 0 rfl) ?_
      refine va_get (D := (dC, dI)) (ci := 7) (v := .ref (ad 36)) (C := RX7) (T := TX7) (N := 9) hx hb hts ki7 hown hK hP 0 rfl rfl 6 (by decide) kf37 (fun _ h9 => h9) rfl dX7_bones_19 ?_
      refine lv_aload_n hx hb dX7_bones_22 rfl (lv_at hl 0 rfl) ?_
      refine va_get (D := (dC, dI)) (ci := 7) (v := .ref (ad 4)) (C := RX7) (T := TX7) (N := 9) hx hb hts ki7 hown hK hP 0 rfl rfl 3 (by decide) kf16 (fun _ h9 => h9) rfl dX7_bones_23 ?_
      refine lv_iload_n hx hb dX7_bones_26 rfl (lv_at hl 1 rfl) ?_
      obtain ⟨q27, e27, h⟩ := g_b h
      refine callVi (cc := cX7_bones) (ws' := zzX ad cy rb rc (ad 4) (ad 11) pb (ad 4) (ad 20) iX iR iT wT tx iB lB aB iC aC iD lD aD iE aE iK lK aK iW aW iP aP) (As := [.int a1]) (rest := [.ref (ad 36)]) ⟨hx, hb, hml, hown, hts⟩ (c_B_question l dC dI cy (fun i => ad (i + 4)) H.size a1 iB lB aB iC aC q27 e27) (cwV 1 hts (goodV m_ml_X7_155 m_im_X0_question m_se_X0_question m_in_X0 m_cd_X0_question) rfl rfl rfl (by decide +kernel) ⟨Nat.le_of_ble_eq_true rfl, Nat.le_of_ble_eq_true rfl⟩) hN hK hP hD hS hA [4, 5, 6, 7, 8, 9, 10, 11, 12, 13, 14, 15, 16, 17, 18, 19] [none, none, none, none, some 0, some 1, some 2, some 3, some 4, some 5, some 6, some 7, some 8, some 9, some 10, some 11, some 12, some 13, some 14, some 15, none, none, none, none, none, none, none, none, none, none, none, none, none, none, none, none, none, none, none, none, none, none, none, none, none, none, none, none, none, none, none, none, none, none] rfl rfl rfl rfl rfl rfl 4 rfl rfl rfl hl.1 rfl (Nat.le_of_ble_eq_true rfl) dX7_bones_27 ⟨Nat.zero_le _, Nat.zero_le _⟩ (fun H locs hP hD hS => ?_)
      obtain ⟨q30, e30, h⟩ := g_b h
      refine callVi (cc := cX7_bones) (ws' := zzX ad cy rb rc (ad 4) (ad 11) pb (ad 4) (ad 20) iX iR iT wT tx iB lB aB iC aC iD lD aD iE aE iK (us lK [(10, q30.2.1), (11, q30.2.2.1), (12, q30.2.2.2.1)]) (us aK [(13, q30.2.2.2.2)]) iW aW iP aP) (As := [.int q27]) (rest := []) ⟨hx, hb, hml, hown, hts⟩ (c_K_rulesThatForbid l dC dI cy (fun i => ad (([36, 37, 38, 39, 40, 41, 42, 43, 44, 45, 46, 4, 5, 6, 7, 8, 9, 10, 11, 12, 13, 14, 15, 16, 17, 18, 19] : List Nat).getD i 0)) H.size N q27 iK lK aK iB lB aB iC aC q30 e30) (cwV 1 hts (goodV m_ml_X7_192 m_im_X2_rulesThatForbid m_se_X2_rulesThatForbid m_in_X2 m_cd_X2_rulesThatForbid) rfl rfl rfl (by decide +kernel) ⟨Nat.le_of_ble_eq_true rfl, Nat.le_of_ble_eq_true rfl⟩) hN hK hP hD hS hA [36, 37, 38, 39, 40, 41, 42, 43, 44, 45, 46, 4, 5, 6, 7, 8, 9, 10, 11, 12, 13, 14, 15, 16, 17, 18, 19] [none, none, none, none, some 11, some 12, some 13, some 14, some 15, some 16, some 17, some 18, some 19, some 20, some 21, some 22, some 23, some 24, some 25, some 26, none, none, none, none, none, none, none, none, none, none, none, none, none, none, none, none, some 0, some 1, some 2, some 3, some 4, some 5, some 6, some 7, some 8, some 9, some 10, none, none, none, none, none, none, none] rfl rfl rfl rfl rfl rfl 36 rfl rfl rfl hl.1 rfl (Nat.le_of_ble_eq_true rfl) dX7_bones_30 ⟨Nat.zero_le _, Nat.zero_le _⟩ (fun H locs hP hD hS => ?_)
      refine lv_goto (tgt := 38) hx hb dX7_bones_33 (by decide) ?_
      have h' := Option.some.inj h
      rw [← hQQ]
      exact W.iret (v := q30.1) hx hb hr (fun t ht hW => ⟨⟨q30.1, (), rfl, by rw [← h'], by rw [← hWQ, ← h', ht]; exact hP, va_K.moved hW.alike hK⟩, hS.F ht⟩) hS.2.2 dX7_bones_38
  · have h := g_t h cz
    refine lv_bipush (v := (-101)) hx hb dX7_bones_7 (by decide) ?_
    have h' := Option.some.inj h
    rw [← hQQ]
    exact W.iret (v := (-101 : Int32)) hx hb hr (fun t ht hW => ⟨⟨(-101 : Int32), (), rfl, by rw [← h'], by rw [← hWQ, ← h', ht]; exact hP, va_K.moved hW.alike hK⟩, hS.F ht⟩) hS.2.2 dX7_bones_9
set_option maxHeartbeats 8000000 in
set_option maxRecDepth 100000 in
theorem c_K_agree (l : Launch) (dC : Nat → ClassId) (dI : Nat → Nat → Nat) (cy : Nat → ClassId) (ad : Nat → Nat) (sz : Nat) (N : Nat) (a1 : Int32) (a2 : Int32) (iK : Nat → Int32) (lK : Nat → Nat → Int64) (aK : Nat → Nat → Int32) (iB : Nat → Int32) (lB : Nat → Nat → Int64) (aB : Nat → Nat → Int32) (iC : Nat → Int32) (aC : Nat → Nat → Int32) (q : Int32) (h : f_K_agree N a1 a2 (lK 3) (lK 9) = some q) : Met l yX2_agree wsX2_agree ({ frames := 2, cells := 0, slots := 0, locals := 45 } : Room) (cP (dC, dI) cy [.ref (ad 0), .int a1, .int a2] (zzK ad cy (ad 11) (ad 18) iK lK aK iB lB aB iC aC) sz) (cQi (dC, dI) cy q (zzK ad cy (ad 11) (ad 18) iK lK aK iB lB aB iC aC) (va_A (zzK ad cy (ad 11) (ad 18) iK lK aK iB lB aB iC aC) sz)) 0 0 (va_A (zzK ad cy (ad 11) (ad 18) iK lK aK iB lB aB iC aC) sz) := by
  refine Met.ofW (cc := cX2_agree) (maxL := 3) (ret := (some .boolean)) (by decide) rfl ?_
  intro p e s m args below meth c s₁ B hml hv
  obtain ⟨hav, hsz, hP, hK, hD0, hN⟩ := hv
  have hx := B.exec
  have hb := B.bytes
  have hr := B.returns
  have hts := atoms_spec (ws := wsX2_agree) B.pre
  have hown : s.vm.findClass RX2 = some m.cls := findClass_of_methodNamed B.named
  have hlocks := B.notSynchronized
  subst hsz
  have hD := hD0.self (sz := s.heap.size)
  generalize hAe : va_A (zzK ad cy (ad 11) (ad 18) iK lK aK iB lB aB iC aC) s.heap.size = A at hD ⊢
  have hA : ∀ q : Nat, s.heap.size ≤ q → A q := fun q h => by rw [← hAe]; exact Or.inr h
  have hS : va_S A s.heap s.heap [] := va_S.rf
  generalize hWQ : (zzK ad cy (ad 11) (ad 18) iK lK aK iB lB aB iC aC) = WQ
  generalize hQQ : MQ below (cQi (dC, dI) cy q WQ A) args s 0 0 A = QQ
  have hl := lv_entry ([.ref (ad 0), .int a1, .int a2] : List Value) (n := 3) (Nat.le_of_ble_eq_true rfl)
  have hfr := lg_entry_eq m ([.ref (ad 0), .int a1, .int a2] : List Value) 3
  rw [← hav] at hfr
  rw [hfr]
  clear hfr hav
  generalize (lg_sl ([.ref (ad 0), .int a1, .int a2] : List Value) ++ List.replicate (3 - (lg_sl ([.ref (ad 0), .int a1, .int a2] : List Value)).length) Slot.unset).toArray = ls at hl ⊢
  have hl : lv_has ls 3 [(0, .ref (ad 0)), (1, .int a1), (2, .int a2)] := hl
  refine (?_ : ∀ (H : Heap) (locs : List Loc), va_P (dC, dI) vwCl (zzK ad cy (ad 11) (ad 18) iK lK aK iB lB aB iC aC) H → va_D A (zzK ad cy (ad 11) (ad 18) iK lK aK iB lB aB iC aC) → va_S A s.heap H locs → W p l e ({ frames := 2, cells := 0, slots := 0, locals := 45 } : Room) s m args below meth c H locs 0 0 QQ (F0 m 0 ls [])) s.heap [] hP hD hS
  clear hP hD hS
  intro H locs hP hD hS
  unfold f_K_agree at h
  refine lv_aload_n hx hb dX2_agree_0 rfl (lv_at hl 0 rfl) ?_
  refine lv_iload_n hx hb dX2_agree_1 rfl (lv_at hl 1 rfl) ?_
  refine lv_iload_n hx hb dX2_agree_2 rfl (lv_at hl 2 rfl) ?_
  obtain ⟨q3, e3, h⟩ := g_b h
  refine callVis (cc := cX2_agree) (w1 := zzK ad cy (ad 11) (ad 18) iK lK aK iB lB aB iC aC) (As := [.int a1, .int a2]) (rest := []) ⟨hx, hb, hml, hown, hts⟩ (c_K_implies l dC dI cy ad H.size N a1 a2 iK lK aK iB lB aB iC aC q3 e3) (cwV 2 hts (goodV m_ml_X2_188 m_im_X2_implies m_se_X2_implies m_in_X2 m_cd_X2_implies) rfl rfl rfl (by decide +kernel) ⟨Nat.le_of_ble_eq_true rfl, Nat.le_of_ble_eq_true rfl⟩) hN hK hP hD hS hA rfl 0 rfl rfl rfl hl.1 rfl (Nat.le_of_ble_eq_true rfl) dX2_agree_3 ⟨Nat.zero_le _, Nat.zero_le _⟩ (fun H locs hP hD hS => ?_)
  refine lv_if_eq (tgt := 22) hx hb dX2_agree_6 (by decide) (fun cz => ?_) (fun cz => ?_)
  · have h := g_t h cz
    refine lv_iconst (v := 0) hx hb dX2_agree_22 (by decide) ?_
    have h' := Option.some.inj h
    rw [← hQQ]
    exact W.zret (v := (0 : Int32)) hx hb hr rfl (fun t ht hW => ⟨⟨(0 : Int32), (), rfl, by rw [← h'], by rw [← hWQ, ht]; exact hP, va_K.moved hW.alike hK⟩, hS.F ht⟩) hS.2.2 dX2_agree_23
  · have h := g_f h cz
    refine lv_aload_n hx hb dX2_agree_9 rfl (lv_at hl 0 rfl) ?_
    refine lv_iload_n hx hb dX2_agree_10 rfl (lv_at hl 2 rfl) ?_
    refine lv_iload_n hx hb dX2_agree_11 rfl (lv_at hl 1 rfl) ?_
    obtain ⟨q12, e12, h⟩ := g_b h
    refine callVis (cc := cX2_agree) (w1 := zzK ad cy (ad 11) (ad 18) iK lK aK iB lB aB iC aC) (As := [.int a2, .int a1]) (rest := []) ⟨hx, hb, hml, hown, hts⟩ (c_K_implies l dC dI cy ad H.size N a2 a1 iK lK aK iB lB aB iC aC q12 e12) (cwV 2 hts (goodV m_ml_X2_188 m_im_X2_implies m_se_X2_implies m_in_X2 m_cd_X2_implies) rfl rfl rfl (by decide +kernel) ⟨Nat.le_of_ble_eq_true rfl, Nat.le_of_ble_eq_true rfl⟩) hN hK hP hD hS hA rfl 0 rfl rfl rfl hl.1 rfl (Nat.le_of_ble_eq_true rfl) dX2_agree_12 ⟨Nat.zero_le _, Nat.zero_le _⟩ (fun H locs hP hD hS => ?_)
    refine lv_if_eq (tgt := 22) hx hb dX2_agree_15 (by decide) (fun cz => ?_) (fun cz => ?_)
    · have h := g_t h cz
      refine lv_iconst (v := 0) hx hb dX2_agree_22 (by decide) ?_
      have h' := Option.some.inj h
      rw [← hQQ]
      exact W.zret (v := (0 : Int32)) hx hb hr rfl (fun t ht hW => ⟨⟨(0 : Int32), (), rfl, by rw [← h'], by rw [← hWQ, ht]; exact hP, va_K.moved hW.alike hK⟩, hS.F ht⟩) hS.2.2 dX2_agree_23
    · have h := g_f h cz
      refine lv_iconst (v := 1) hx hb dX2_agree_18 (by decide) ?_
      refine lv_goto (tgt := 23) hx hb dX2_agree_19 (by decide) ?_
      have h' := Option.some.inj h
      rw [← hQQ]
      exact W.zret (v := (1 : Int32)) hx hb hr rfl (fun t ht hW => ⟨⟨(1 : Int32), (), rfl, by rw [← h'], by rw [← hWQ, ht]; exact hP, va_K.moved hW.alike hK⟩, hS.F ht⟩) hS.2.2 dX2_agree_23
set_option maxHeartbeats 8000000 in
set_option maxRecDepth 100000 in
theorem c_X_same (l : Launch) (dC : Nat → ClassId) (dI : Nat → Nat → Nat) (cy : Nat → ClassId) (ad : Nat → Nat) (sz : Nat) (rb : Nat) (rc : Nat) (pb : Nat) (N : Nat) (a1 : Int32) (a2 : Int32) (iX : Nat → Int32) (iR : Nat → Int32) (iT : Nat → Int32) (wT : Int64) (tx : Nat → Int32) (iB : Nat → Int32) (lB : Nat → Nat → Int64) (aB : Nat → Nat → Int32) (iC : Nat → Int32) (aC : Nat → Nat → Int32) (iD : Nat → Int32) (lD : Nat → Nat → Int64) (aD : Nat → Nat → Int32) (iE : Nat → Int32) (aE : Nat → Nat → Int32) (iK : Nat → Int32) (lK : Nat → Nat → Int64) (aK : Nat → Nat → Int32) (iW : Nat → Int32) (aW : Nat → Nat → Int32) (iP : Nat → Int32) (aP : Nat → Nat → Int32) (q : Int32) (h : f_X_same N a1 a2 (iX 5) (iB 11) (aB 10) (lK 3) (lK 9) = some q) : Met l yX7_same wsX7_same ({ frames := 3, cells := 0, slots := 0, locals := 67 } : Room) (cP (dC, dI) cy [.ref (ad 0), .int a1, .int a2] (zzX ad cy rb rc (ad 4) (ad 11) pb (ad 4) (ad 20) iX iR iT wT tx iB lB aB iC aC iD lD aD iE aE iK lK aK iW aW iP aP) sz) (cQi (dC, dI) cy q (zzX ad cy rb rc (ad 4) (ad 11) pb (ad 4) (ad 20) iX iR iT wT tx iB lB aB iC aC iD lD aD iE aE iK lK aK iW aW iP aP) (va_A (zzX ad cy rb rc (ad 4) (ad 11) pb (ad 4) (ad 20) iX iR iT wT tx iB lB aB iC aC iD lD aD iE aE iK lK aK iW aW iP aP) sz)) 0 0 (va_A (zzX ad cy rb rc (ad 4) (ad 11) pb (ad 4) (ad 20) iX iR iT wT tx iB lB aB iC aC iD lD aD iE aE iK lK aK iW aW iP aP) sz) := by
  refine Met.ofW (cc := cX7_same) (maxL := 3) (ret := (some .int)) (by decide) rfl ?_
  intro p e s m args below meth c s₁ B hml hv
  obtain ⟨hav, hsz, hP, hK, hD0, hN⟩ := hv
  have hx := B.exec
  have hb := B.bytes
  have hr := B.returns
  have hts := atoms_spec (ws := wsX7_same) B.pre
  have hown : s.vm.findClass RX7 = some m.cls := findClass_of_methodNamed B.named
  have hlocks := B.notSynchronized
  subst hsz
  have hD := hD0.self (sz := s.heap.size)
  generalize hAe : va_A (zzX ad cy rb rc (ad 4) (ad 11) pb (ad 4) (ad 20) iX iR iT wT tx iB lB aB iC aC iD lD aD iE aE iK lK aK iW aW iP aP) s.heap.size = A at hD ⊢
  have hA : ∀ q : Nat, s.heap.size ≤ q → A q := fun q h => by rw [← hAe]; exact Or.inr h
  have hS : va_S A s.heap s.heap [] := va_S.rf
  generalize hWQ : (zzX ad cy rb rc (ad 4) (ad 11) pb (ad 4) (ad 20) iX iR iT wT tx iB lB aB iC aC iD lD aD iE aE iK lK aK iW aW iP aP) = WQ
  generalize hQQ : MQ below (cQi (dC, dI) cy q WQ A) args s 0 0 A = QQ
  have hl := lv_entry ([.ref (ad 0), .int a1, .int a2] : List Value) (n := 3) (Nat.le_of_ble_eq_true rfl)
  have hfr := lg_entry_eq m ([.ref (ad 0), .int a1, .int a2] : List Value) 3
  rw [← hav] at hfr
  rw [hfr]
  clear hfr hav
  generalize (lg_sl ([.ref (ad 0), .int a1, .int a2] : List Value) ++ List.replicate (3 - (lg_sl ([.ref (ad 0), .int a1, .int a2] : List Value)).length) Slot.unset).toArray = ls at hl ⊢
  have hl : lv_has ls 3 [(0, .ref (ad 0)), (1, .int a1), (2, .int a2)] := hl
  have kf70 := hts _ (List.mem_cons_of_mem _ m_fl_X7_70)
  have ki7 := (fun w h => List.mem_cons_of_mem _ (i_X7 w h) : ∀ w ∈ u_ws RX7 TX7 9, w ∈ wsX7_same)
  have kf37 := hts _ (List.mem_cons_of_mem _ m_fl_X7_37)
  have kf16 := hts _ (List.mem_cons_of_mem _ m_fl_X7_16)
  refine (?_ : ∀ (H : Heap) (locs : List Loc), va_P (dC, dI) vwCl (zzX ad cy rb rc (ad 4) (ad 11) pb (ad 4) (ad 20) iX iR iT wT tx iB lB aB iC aC iD lD aD iE aE iK lK aK iW aW iP aP) H → va_D A (zzX ad cy rb rc (ad 4) (ad 11) pb (ad 4) (ad 20) iX iR iT wT tx iB lB aB iC aC iD lD aD iE aE iK lK aK iW aW iP aP) → va_S A s.heap H locs → W p l e ({ frames := 3, cells := 0, slots := 0, locals := 67 } : Room) s m args below meth c H locs 0 0 QQ (F0 m 0 ls [])) s.heap [] hP hD hS
  clear hP hD hS
  intro H locs hP hD hS
  unfold f_X_same at h
  refine lv_aload_n hx hb dX7_same_0 rfl (lv_at hl 0 rfl) ?_
  refine va_get (D := (dC, dI)) (ci := 7) (v := .int (iX 5)) (C := RX7) (T := TX7) (N := 9) hx hb hts ki7 hown hK hP 0 rfl rfl 5 (by decide) kf70 (fun _ h9 => h9) rfl dX7_same_1 ?_
  refine lv_if_ne (tgt := 10) hx hb dX7_same_4 (by decide) (fun cz => ?_) (fun cz => ?_)
  · have h := g_f h cz
    refine lv_aload_n hx hb dX7_same_10 rfl (lv_at hl 0 rfl) ?_
    refine lv_iload_n hx hb dX7_same_11 rfl (lv_at hl 1 rfl) ?_
    obtain ⟨q12, e12, h⟩ := g_b h
    refine callVis (cc := cX7_same) (w1 := zzX ad cy rb rc (ad 4) (ad 11) pb (ad 4) (ad 20) iX iR iT wT tx iB lB aB iC aC iD lD aD iE aE iK lK aK iW aW iP aP) (As := [.int a1]) (rest := []) ⟨hx, hb, hml, hown, hts⟩ (c_X_isQuestion l dC dI cy ad H.size rb rc pb a1 iX iR iT wT tx iB lB aB iC aC iD lD aD iE aE iK lK aK iW aW iP aP q12 e12) (cwV 1 hts (goodV m_ml_X7_152 m_im_X7_isQuestion m_se_X7_isQuestion m_in_X7 m_cd_X7_isQuestion) rfl rfl rfl (by decide +kernel) ⟨Nat.le_of_ble_eq_true rfl, Nat.le_of_ble_eq_true rfl⟩) hN hK hP hD hS hA rfl 0 rfl rfl rfl hl.1 rfl (Nat.le_of_ble_eq_true rfl) dX7_same_12 ⟨Nat.zero_le _, Nat.zero_le _⟩ (fun H locs hP hD hS => ?_)
    refine lv_if_eq (tgt := 26) hx hb dX7_same_15 (by decide) (fun cz => ?_) (fun cz => ?_)
    · have h := g_t h cz
      refine lv_bipush (v := (-102)) hx hb dX7_same_26 (by decide) ?_
      have h' := Option.some.inj h
      rw [← hQQ]
      exact W.iret (v := (-102 : Int32)) hx hb hr (fun t ht hW => ⟨⟨(-102 : Int32), (), rfl, by rw [← h'], by rw [← hWQ, ht]; exact hP, va_K.moved hW.alike hK⟩, hS.F ht⟩) hS.2.2 dX7_same_28
    · have h := g_f h cz
      refine lv_aload_n hx hb dX7_same_18 rfl (lv_at hl 0 rfl) ?_
      refine lv_iload_n hx hb dX7_same_19 rfl (lv_at hl 2 rfl) ?_
      obtain ⟨q20, e20, h⟩ := g_b h
      refine callVis (cc := cX7_same) (w1 := zzX ad cy rb rc (ad 4) (ad 11) pb (ad 4) (ad 20) iX iR iT wT tx iB lB aB iC aC iD lD aD iE aE iK lK aK iW aW iP aP) (As := [.int a2]) (rest := []) ⟨hx, hb, hml, hown, hts⟩ (c_X_isQuestion l dC dI cy ad H.size rb rc pb a2 iX iR iT wT tx iB lB aB iC aC iD lD aD iE aE iK lK aK iW aW iP aP q20 e20) (cwV 1 hts (goodV m_ml_X7_152 m_im_X7_isQuestion m_se_X7_isQuestion m_in_X7 m_cd_X7_isQuestion) rfl rfl rfl (by decide +kernel) ⟨Nat.le_of_ble_eq_true rfl, Nat.le_of_ble_eq_true rfl⟩) hN hK hP hD hS hA rfl 0 rfl rfl rfl hl.1 rfl (Nat.le_of_ble_eq_true rfl) dX7_same_20 ⟨Nat.zero_le _, Nat.zero_le _⟩ (fun H locs hP hD hS => ?_)
      refine lv_if_ne (tgt := 29) hx hb dX7_same_23 (by decide) (fun cz => ?_) (fun cz => ?_)
      · have h := g_f h cz
        refine lv_aload_n hx hb dX7_same_29 rfl (lv_at hl 0 rfl) ?_
        refine va_get (D := (dC, dI)) (ci := 7) (v := .ref (ad 36)) (C := RX7) (T := TX7) (N := 9) hx hb hts ki7 hown hK hP 0 rfl rfl 6 (by decide) kf37 (fun _ h9 => h9) rfl dX7_same_30 ?_
        refine lv_aload_n hx hb dX7_same_33 rfl (lv_at hl 0 rfl) ?_
        refine va_get (D := (dC, dI)) (ci := 7) (v := .ref (ad 4)) (C := RX7) (T := TX7) (N := 9) hx hb hts ki7 hown hK hP 0 rfl rfl 3 (by decide) kf16 (fun _ h9 => h9) rfl dX7_same_34 ?_
        refine lv_iload_n hx hb dX7_same_37 rfl (lv_at hl 1 rfl) ?_
        obtain ⟨q38, e38, h⟩ := g_b h
        refine callVi (cc := cX7_same) (ws' := zzX ad cy rb rc (ad 4) (ad 11) pb (ad 4) (ad 20) iX iR iT wT tx iB lB aB iC aC iD lD aD iE aE iK lK aK iW aW iP aP) (As := [.int a1]) (rest := [.ref (ad 36)]) ⟨hx, hb, hml, hown, hts⟩ (c_B_question l dC dI cy (fun i => ad (i + 4)) H.size a1 iB lB aB iC aC q38 e38) (cwV 1 hts (goodV m_ml_X7_155 m_im_X0_question m_se_X0_question m_in_X0 m_cd_X0_question) rfl rfl rfl (by decide +kernel) ⟨Nat.le_of_ble_eq_true rfl, Nat.le_of_ble_eq_true rfl⟩) hN hK hP hD hS hA [4, 5, 6, 7, 8, 9, 10, 11, 12, 13, 14, 15, 16, 17, 18, 19] [none, none, none, none, some 0, some 1, some 2, some 3, some 4, some 5, some 6, some 7, some 8, some 9, some 10, some 11, some 12, some 13, some 14, some 15, none, none, none, none, none, none, none, none, none, none, none, none, none, none, none, none, none, none, none, none, none, none, none, none, none, none, none, none, none, none, none, none, none, none] rfl rfl rfl rfl rfl rfl 4 rfl rfl rfl hl.1 rfl (Nat.le_of_ble_eq_true rfl) dX7_same_38 ⟨Nat.zero_le _, Nat.zero_le _⟩ (fun H locs hP hD hS => ?_)
        refine lv_aload_n hx hb dX7_same_41 rfl (lv_at hl 0 rfl) ?_
        refine va_get (D := (dC, dI)) (ci := 7) (v := .ref (ad 4)) (C := RX7) (T := TX7) (N := 9) hx hb hts ki7 hown hK hP 0 rfl rfl 3 (by decide) kf16 (fun _ h9 => h9) rfl dX7_same_42 ?_
        refine lv_iload_n hx hb dX7_same_45 rfl (lv_at hl 2 rfl) ?_
        obtain ⟨q46, e46, h⟩ := g_b h
        refine callVi (cc := cX7_same) (ws' := zzX ad cy rb rc (ad 4) (ad 11) pb (ad 4) (ad 20) iX iR iT wT tx iB lB aB iC aC iD lD aD iE aE iK lK aK iW aW iP aP) (As := [.int a2]) (rest := [.int q38, .ref (ad 36)]) ⟨hx, hb, hml, hown, hts⟩ (c_B_question l dC dI cy (fun i => ad (i + 4)) H.size a2 iB lB aB iC aC q46 e46) (cwV 1 hts (goodV m_ml_X7_155 m_im_X0_question m_se_X0_question m_in_X0 m_cd_X0_question) rfl rfl rfl (by decide +kernel) ⟨Nat.le_of_ble_eq_true rfl, Nat.le_of_ble_eq_true rfl⟩) hN hK hP hD hS hA [4, 5, 6, 7, 8, 9, 10, 11, 12, 13, 14, 15, 16, 17, 18, 19] [none, none, none, none, some 0, some 1, some 2, some 3, some 4, some 5, some 6, some 7, some 8, some 9, some 10, some 11, some 12, some 13, some 14, some 15, none, none, none, none, none, none, none, none, none, none, none, none, none, none, none, none, none, none, none, none, none, none, none, none, none, none, none, none, none, none, none, none, none, none] rfl rfl rfl rfl rfl rfl 4 rfl rfl rfl hl.1 rfl (Nat.le_of_ble_eq_true rfl) dX7_same_46 ⟨Nat.zero_le _, Nat.zero_le _⟩ (fun H locs hP hD hS => ?_)
        obtain ⟨q49, e49, h⟩ := g_b h
        refine callVi (cc := cX7_same) (ws' := zzX ad cy rb rc (ad 4) (ad 11) pb (ad 4) (ad 20) iX iR iT wT tx iB lB aB iC aC iD lD aD iE aE iK lK aK iW aW iP aP) (As := [.int q38, .int q46]) (rest := []) ⟨hx, hb, hml, hown, hts⟩ (c_K_agree l dC dI cy (fun i => ad (([36, 37, 38, 39, 40, 41, 42, 43, 44, 45, 46, 4, 5, 6, 7, 8, 9, 10, 11, 12, 13, 14, 15, 16, 17, 18, 19] : List Nat).getD i 0)) H.size N q38 q46 iK lK aK iB lB aB iC aC q49 e49) (cwV 2 hts (goodV m_ml_X7_195 m_im_X2_agree m_se_X2_agree m_in_X2 m_cd_X2_agree) rfl rfl rfl (by decide +kernel) ⟨Nat.le_of_ble_eq_true rfl, Nat.le_of_ble_eq_true rfl⟩) hN hK hP hD hS hA [36, 37, 38, 39, 40, 41, 42, 43, 44, 45, 46, 4, 5, 6, 7, 8, 9, 10, 11, 12, 13, 14, 15, 16, 17, 18, 19] [none, none, none, none, some 11, some 12, some 13, some 14, some 15, some 16, some 17, some 18, some 19, some 20, some 21, some 22, some 23, some 24, some 25, some 26, none, none, none, none, none, none, none, none, none, none, none, none, none, none, none, none, some 0, some 1, some 2, some 3, some 4, some 5, some 6, some 7, some 8, some 9, some 10, none, none, none, none, none, none, none] rfl rfl rfl rfl rfl rfl 36 rfl rfl rfl hl.1 rfl (Nat.le_of_ble_eq_true rfl) dX7_same_49 ⟨Nat.zero_le _, Nat.zero_le _⟩ (fun H locs hP hD hS => ?_)
        obtain ⟨q52, e52, h⟩ := g_b h
        refine callSi (cc := cX7_same) (ws' := zzX ad cy rb rc (ad 4) (ad 11) pb (ad 4) (ad 20) iX iR iT wT tx iB lB aB iC aC iD lD aD iE aE iK lK aK iW aW iP aP) (As := [.int q49]) (rest := []) ⟨hx, hb, hml, hown, hts⟩ (c_X_oneIf l dC dI cy ad H.size q49 q52 e52) (va_cwS 1 hts (goodS m_ml_X7_148 m_st_X7_oneIf m_in_X7 m_cd_X7_oneIf) rfl rfl rfl (by decide +kernel) ⟨Nat.le_of_ble_eq_true rfl, Nat.le_of_ble_eq_true rfl⟩) hN hK hP hD hS hA [] [none, none, none, none, none, none, none, none, none, none, none, none, none, none, none, none, none, none, none, none, none, none, none, none, none, none, none, none, none, none, none, none, none, none, none, none, none, none, none, none, none, none, none, none, none, none, none, none, none, none, none, none, none, none] rfl rfl rfl rfl rfl rfl rfl hl.1 rfl (Nat.le_of_ble_eq_true rfl) dX7_same_52 ⟨Nat.zero_le _, Nat.zero_le _⟩ (fun H locs hP hD hS => ?_)
        have h' := Option.some.inj h
        rw [← hQQ]
        exact W.iret (v := q52) hx hb hr (fun t ht hW => ⟨⟨q52, (), rfl, by rw [← h'], by rw [← hWQ, ht]; exact hP, va_K.moved hW.alike hK⟩, hS.F ht⟩) hS.2.2 dX7_same_55
      · have h := g_t h cz
        refine lv_bipush (v := (-102)) hx hb dX7_same_26 (by decide) ?_
        have h' := Option.some.inj h
        rw [← hQQ]
        exact W.iret (v := (-102 : Int32)) hx hb hr (fun t ht hW => ⟨⟨(-102 : Int32), (), rfl, by rw [← h'], by rw [← hWQ, ht]; exact hP, va_K.moved hW.alike hK⟩, hS.F ht⟩) hS.2.2 dX7_same_28
  · have h := g_t h cz
    refine lv_bipush (v := (-101)) hx hb dX7_same_7 (by decide) ?_
    have h' := Option.some.inj h
    rw [← hQQ]
    exact W.iret (v := (-101 : Int32)) hx hb hr (fun t ht hW => ⟨⟨(-101 : Int32), (), rfl, by rw [← h'], by rw [← hWQ, ht]; exact hP, va_K.moved hW.alike hK⟩, hS.F ht⟩) hS.2.2 dX7_same_9
set_option maxHeartbeats 8000000 in
set_option maxRecDepth 100000 in
theorem c_B_statement (l : Launch) (dC : Nat → ClassId) (dI : Nat → Nat → Nat) (cy : Nat → ClassId) (ad : Nat → Nat) (sz : Nat) (a1 : Int32) (iB : Nat → Int32) (lB : Nat → Nat → Int64) (aB : Nat → Nat → Int32) (iC : Nat → Int32) (aC : Nat → Nat → Int32) (q : Int32) (h : f_B_statement a1 (iB 7) (aB 6) = some q) : Met l yX0_statement wsX0_statement ({ frames := 0, cells := 0, slots := 0, locals := 0 } : Room) (cP (dC, dI) cy [.ref (ad 0), .int a1] (zzB ad cy iB lB aB iC aC) sz) (cQi (dC, dI) cy q (zzB ad cy iB lB aB iC aC) (va_A (zzB ad cy iB lB aB iC aC) sz)) 0 0 (va_A (zzB ad cy iB lB aB iC aC) sz) := by
  refine Met.ofW (cc := cX0_statement) (maxL := 2) (ret := (some .int)) (by decide) rfl ?_
  intro p e s m args below meth c s₁ B hml hv
  obtain ⟨hav, hsz, hP, hK, hD0, hN⟩ := hv
  have hx := B.exec
  have hb := B.bytes
  have hr := B.returns
  have hts := atoms_spec (ws := wsX0_statement) B.pre
  have hown : s.vm.findClass RX0 = some m.cls := findClass_of_methodNamed B.named
  have hlocks := B.notSynchronized
  subst hsz
  have hD := hD0.self (sz := s.heap.size)
  generalize hAe : va_A (zzB ad cy iB lB aB iC aC) s.heap.size = A at hD ⊢
  have hA : ∀ q : Nat, s.heap.size ≤ q → A q := fun q h => by rw [← hAe]; exact Or.inr h
  have hS : va_S A s.heap s.heap [] := va_S.rf
  generalize hWQ : (zzB ad cy iB lB aB iC aC) = WQ
  generalize hQQ : MQ below (cQi (dC, dI) cy q WQ A) args s 0 0 A = QQ
  have hl := lv_entry ([.ref (ad 0), .int a1] : List Value) (n := 2) (Nat.le_of_ble_eq_true rfl)
  have hfr := lg_entry_eq m ([.ref (ad 0), .int a1] : List Value) 2
  rw [← hav] at hfr
  rw [hfr]
  clear hfr hav
  generalize (lg_sl ([.ref (ad 0), .int a1] : List Value) ++ List.replicate (2 - (lg_sl ([.ref (ad 0), .int a1] : List Value)).length) Slot.unset).toArray = ls at hl ⊢
  have hl : lv_has ls 2 [(0, .ref (ad 0)), (1, .int a1)] := hl
  have kf51 := hts _ (List.mem_cons_of_mem _ m_fl_X0_51)
  have ki0 := (fun w h => List.mem_cons_of_mem _ (i_X0 w h) : ∀ w ∈ u_ws RX0 TX0 15, w ∈ wsX0_statement)
  have kf25 := hts _ (List.mem_cons_of_mem _ m_fl_X0_25)
  refine (?_ : ∀ (H : Heap) (locs : List Loc), va_P (dC, dI) vwCl (zzB ad cy iB lB aB iC aC) H → va_D A (zzB ad cy iB lB aB iC aC) → va_S A s.heap H locs → W p l e ({ frames := 0, cells := 0, slots := 0, locals := 0 } : Room) s m args below meth c H locs 0 0 QQ (F0 m 0 ls [])) s.heap [] hP hD hS
  clear hP hD hS
  intro H locs hP hD hS
  unfold f_B_statement at h
  refine lv_iload_n hx hb dX0_statement_0 rfl (lv_at hl 1 rfl) ?_
  refine lv_if_lt (tgt := 21) hx hb dX0_statement_1 (by decide) (fun cz => ?_) (fun cz => ?_)
  · have h := g_t h cz
    refine lv_iconst (v := (-1)) hx hb dX0_statement_21 (by decide) ?_
    have h' := Option.some.inj h
    rw [← hQQ]
    exact W.iret (v := (-1 : Int32)) hx hb hr (fun t ht hW => ⟨⟨(-1 : Int32), (), rfl, by rw [← h'], by rw [← hWQ, ht]; exact hP, va_K.moved hW.alike hK⟩, hS.F ht⟩) hS.2.2 dX0_statement_22
  · have h := g_f h cz
    refine lv_iload_n hx hb dX0_statement_4 rfl (lv_at hl 1 rfl) ?_
    refine lv_aload_n hx hb dX0_statement_5 rfl (lv_at hl 0 rfl) ?_
    refine va_get (D := (dC, dI)) (ci := 0) (v := .int (iB 7)) (C := RX0) (T := TX0) (N := 15) hx hb hts ki0 hown hK hP 0 rfl rfl 7 (by decide) kf51 (fun _ h9 => h9) rfl dX0_statement_6 ?_
    refine lv_icmp_ge (tgt := 21) hx hb dX0_statement_9 (by decide) (fun cz => ?_) (fun cz => ?_)
    · have h := g_t h cz
      refine lv_iconst (v := (-1)) hx hb dX0_statement_21 (by decide) ?_
      have h' := Option.some.inj h
      rw [← hQQ]
      exact W.iret (v := (-1 : Int32)) hx hb hr (fun t ht hW => ⟨⟨(-1 : Int32), (), rfl, by rw [← h'], by rw [← hWQ, ht]; exact hP, va_K.moved hW.alike hK⟩, hS.F ht⟩) hS.2.2 dX0_statement_22
    · have h := g_f h cz
      refine lv_aload_n hx hb dX0_statement_12 rfl (lv_at hl 0 rfl) ?_
      refine va_get (D := (dC, dI)) (ci := 0) (v := .ref (ad 3)) (C := RX0) (T := TX0) (N := 15) hx hb hts ki0 hown hK hP 0 rfl rfl 6 (by decide) kf25 (fun _ h9 => h9) rfl dX0_statement_13 ?_
      refine lv_iload_n hx hb dX0_statement_16 rfl (lv_at hl 1 rfl) ?_
      obtain ⟨g_41, h⟩ := g_n h
      refine va_iald (f := (aB 6)) hx hb hK hP 3 0 rfl rfl g_41 dX0_statement_17 ?_
      refine lv_goto (tgt := 22) hx hb dX0_statement_18 (by decide) ?_
      have h' := Option.some.inj h
      rw [← hQQ]
      exact W.iret (v := ((aB 6) a1.toNatClampNeg)) hx hb hr (fun t ht hW => ⟨⟨((aB 6) a1.toNatClampNeg), (), rfl, by rw [← h'], by rw [← hWQ, ht]; exact hP, va_K.moved hW.alike hK⟩, hS.F ht⟩) hS.2.2 dX0_statement_22
set_option maxHeartbeats 8000000 in
set_option maxRecDepth 100000 in
theorem c_P_putWord (l : Launch) (dC : Nat → ClassId) (dI : Nat → Nat → Nat) (cy : Nat → ClassId) (ad : Nat → Nat) (sz : Nat) (N : Nat) (a1 : Int64) (iP : Nat → Int32) (aP : Nat → Nat → Int32) (iB : Nat → Int32) (lB : Nat → Nat → Int64) (aB : Nat → Nat → Int32) (iC : Nat → Int32) (aC : Nat → Nat → Int32) (q : Int32 × (Nat → Int32)) (h : f_P_putWord N a1 (iP 1) (aP 0) = some q) : Met l yX3_putWord wsX3_putWord ({ frames := 0, cells := 0, slots := 0, locals := 0 } : Room) (cP (dC, dI) cy [.ref (ad 0), .long a1] (zzP ad cy (ad 3) iP aP iB lB aB iC aC) sz) (cQv (dC, dI) cy (zzP ad cy (ad 3) (us iP [(1, q.1)]) (us aP [(0, q.2)]) iB lB aB iC aC) (va_A (zzP ad cy (ad 3) iP aP iB lB aB iC aC) sz)) 0 0 (va_A (zzP ad cy (ad 3) iP aP iB lB aB iC aC) sz) := by
  refine Met.ofW (cc := cX3_putWord) (maxL := 6) (ret := none) (by decide) rfl ?_
  intro p e s m args below meth c s₁ B hml hv
  obtain ⟨hav, hsz, hP, hK, hD0, hN⟩ := hv
  have hx := B.exec
  have hb := B.bytes
  have hr := B.returns
  have hts := atoms_spec (ws := wsX3_putWord) B.pre
  have hown : s.vm.findClass RX3 = some m.cls := findClass_of_methodNamed B.named
  have hlocks := B.notSynchronized
  subst hsz
  have hD := hD0.self (sz := s.heap.size)
  generalize hAe : va_A (zzP ad cy (ad 3) iP aP iB lB aB iC aC) s.heap.size = A at hD ⊢
  have hA : ∀ q : Nat, s.heap.size ≤ q → A q := fun q h => by rw [← hAe]; exact Or.inr h
  have hS : va_S A s.heap s.heap [] := va_S.rf
  generalize hWQ : (zzP ad cy (ad 3) (us iP [(1, q.1)]) (us aP [(0, q.2)]) iB lB aB iC aC) = WQ
  generalize hQQ : MQ below (cQv (dC, dI) cy WQ A) args s 0 0 A = QQ
  have hl := lv_entry ([.ref (ad 0), .long a1] : List Value) (n := 6) (Nat.le_of_ble_eq_true rfl)
  have hfr := lg_entry_eq m ([.ref (ad 0), .long a1] : List Value) 6
  rw [← hav] at hfr
  rw [hfr]
  clear hfr hav
  generalize (lg_sl ([.ref (ad 0), .long a1] : List Value) ++ List.replicate (6 - (lg_sl ([.ref (ad 0), .long a1] : List Value)).length) Slot.unset).toArray = ls at hl ⊢
  have hl : lv_has ls 6 [(0, .ref (ad 0)), (1, .long a1)] := hl
  have kc125 := hts _ (List.mem_cons_of_mem _ m_kl_X3_125)
  have kf23 := hts _ (List.mem_cons_of_mem _ m_fl_X3_23)
  have ki3 := (fun w h => List.mem_cons_of_mem _ (i_X3 w h) : ∀ w ∈ u_ws RX3 TX3 5, w ∈ wsX3_putWord)
  have kf9 := hts _ (List.mem_cons_of_mem _ m_fl_X3_9)
  refine (?_ : ∀ (H : Heap) (locs : List Loc), va_P (dC, dI) vwCl (zzP ad cy (ad 3) iP aP iB lB aB iC aC) H → va_D A (zzP ad cy (ad 3) iP aP iB lB aB iC aC) → va_S A s.heap H locs → W p l e ({ frames := 0, cells := 0, slots := 0, locals := 0 } : Room) s m args below meth c H locs 0 0 QQ (F0 m 0 ls [])) s.heap [] hP hD hS
  clear hP hD hS
  have B3 : ∀ (n : Nat) (v1 : Int64) (v3 : Int32) (x_iP1 : Int32) (x_aP0 : Nat → Int32) (H : Heap) (locs : List Loc) (ls : Array Slot), f_P_putWord_3 N (iP 1) (aP 0) v1 n v3 x_iP1 x_aP0 = some q → va_P (dC, dI) vwCl (zzP ad cy (ad 3) (us iP [(1, x_iP1)]) (us aP [(0, x_aP0)]) iB lB aB iC aC) H → va_D A (zzP ad cy (ad 3) (us iP [(1, x_iP1)]) (us aP [(0, x_aP0)]) iB lB aB iC aC) → va_S A s.heap H locs → lv_has ls 6 [(0, .ref (ad 0)), (1, .long v1), (3, .int v3)] → W p l e ({ frames := 0, cells := 0, slots := 0, locals := 0 } : Room) s m args below meth c H locs 0 0 QQ (F0 m 3 ls []) := by
    intro n
    induction n with
    | zero =>
      intro v1 v3 x_iP1 x_aP0 H locs ls h hP hD hS hl
      rw [f_P_putWord_3] at h
      cases h
    | succ n ih =>
      intro v1 v3 x_iP1 x_aP0 H locs ls h hP hD hS hl
      rw [f_P_putWord_3] at h
      refine lv_iload_n hx hb dX3_putWord_3 rfl (lv_at hl 2 rfl) ?_
      refine lv_if_lt (tgt := 62) hx hb dX3_putWord_4 (by decide) (fun cz => ?_) (fun cz => ?_)
      · have h := g_t h cz
        have h' := Option.some.inj h
        rw [← hQQ]
        exact W.vret hx hb hr (fun t ht hW => ⟨⟨(), rfl, trivial, by rw [← hWQ, ← h', ht]; exact hP, va_K.moved hW.alike hK⟩, hS.F ht⟩) hS.2.2 dX3_putWord_62
      · have h := g_f h cz
        refine lv_lload_n hx hb dX3_putWord_7 rfl (lv_at hl 1 rfl) ?_
        refine lv_iload_n hx hb dX3_putWord_8 rfl (lv_at hl 2 rfl) ?_
        refine lv_lshr (v := (v1 >>> ((v3).toInt64 &&& 63))) hx hb dX3_putWord_9 rfl ?_
        refine lv_ldc2 (v := 255) hx hb hown kc125 dX3_putWord_10 ?_
        refine lv_land hx hb dX3_putWord_13 ?_
        refine lv_lstore (lv' := [(4, .long (((v1 >>> ((v3).toInt64 &&& 63)) &&& (255 : Int64)))), (0, .ref (ad 0)), (1, .long v1), (3, .int v3)]) hx hb dX3_putWord_14 hl (by decide) rfl (fun ls hl => ?_)
        refine lv_lload hx hb dX3_putWord_16 (lv_at hl 0 rfl) ?_
        refine lv_lconst (v := 0) hx hb dX3_putWord_18 (by decide) ?_
        refine W.lcmp hx hb dX3_putWord_19 ?_
        refine lv_if_eq (tgt := 56) hx hb dX3_putWord_20 (by decide) (fun cz => ?_) (fun cz => ?_)
        · have h := g_t h (lg_cmp0.mp cz)
          refine lv_iinc (v := (v3 + (-8 : Int32))) (lv' := [(3, .int ((v3 + (-8 : Int32)))), (4, .long (((v1 >>> ((v3).toInt64 &&& 63)) &&& (255 : Int64)))), (0, .ref (ad 0)), (1, .long v1)]) hx hb dX3_putWord_56 hl (k := 3) rfl rfl (by decide) rfl (fun ls hl => ?_)
          refine lv_goto (tgt := 3) hx hb dX3_putWord_59 (by decide) ?_
          exact ih v1 ((v3 + (-8 : Int32))) x_iP1 x_aP0 H locs ls h hP hD hS (lv_sub hl [2, 3, 0] rfl)
        · have h := g_f h (fun z => cz (lg_cmp0.mpr z))
          refine lv_aload_n hx hb dX3_putWord_23 rfl (lv_at hl 1 rfl) ?_
          refine va_get (D := (dC, dI)) (ci := 3) (v := .int x_iP1) (C := RX3) (T := TX3) (N := 5) hx hb hts ki3 hown hK hP 0 rfl rfl 1 (by decide) kf23 (fun _ h9 => h9) rfl dX3_putWord_24 ?_
          refine lv_sipush (v := 2670) hx hb dX3_putWord_27 (by decide) ?_
          refine lv_icmp_ge (tgt := 56) hx hb dX3_putWord_30 (by decide) (fun cz => ?_) (fun cz => ?_)
          · have h := g_t h cz
            refine lv_iinc (v := (v3 + (-8 : Int32))) (lv' := [(3, .int ((v3 + (-8 : Int32)))), (4, .long (((v1 >>> ((v3).toInt64 &&& 63)) &&& (255 : Int64)))), (0, .ref (ad 0)), (1, .long v1)]) hx hb dX3_putWord_56 hl (k := 3) rfl rfl (by decide) rfl (fun ls hl => ?_)
            refine lv_goto (tgt := 3) hx hb dX3_putWord_59 (by decide) ?_
            exact ih v1 ((v3 + (-8 : Int32))) x_iP1 x_aP0 H locs ls h hP hD hS (lv_sub hl [2, 3, 0] rfl)
          · have h := g_f h cz
            refine lv_aload_n hx hb dX3_putWord_33 rfl (lv_at hl 1 rfl) ?_
            refine va_get (D := (dC, dI)) (ci := 3) (v := .ref (ad 1)) (C := RX3) (T := TX3) (N := 5) hx hb hts ki3 hown hK hP 0 rfl rfl 0 (by decide) kf9 (fun _ h9 => h9) rfl dX3_putWord_34 ?_
            refine lv_aload_n hx hb dX3_putWord_37 rfl (lv_at hl 1 rfl) ?_
            refine va_get (D := (dC, dI)) (ci := 3) (v := .int x_iP1) (C := RX3) (T := TX3) (N := 5) hx hb hts ki3 hown hK hP 0 rfl rfl 1 (by decide) kf23 (fun _ h9 => h9) rfl dX3_putWord_38 ?_
            refine lv_lload hx hb dX3_putWord_41 (lv_at hl 0 rfl) ?_
            refine lv_l2i (v := (((v1 >>> ((v3).toInt64 &&& 63)) &&& (255 : Int64))).toInt32) hx hb dX3_putWord_43 rfl ?_
            refine lv_i2b (v := ((((v1 >>> ((v3).toInt64 &&& 63)) &&& (255 : Int64))).toInt32).toInt8.toInt32) hx hb dX3_putWord_44 rfl ?_
            obtain ⟨g_42, h⟩ := g_n h
            refine va_bast (f := x_aP0) hx hb hK hP hD hS 1 1 rfl rfl g_42 dX3_putWord_45 (fun H locs hP hD hS => ?_)
            have hP : va_P (dC, dI) vwCl (zzP ad cy (ad 3) (us iP [(1, x_iP1)]) (us aP [(0, (upd x_aP0 x_iP1.toNatClampNeg (vp_nar .byte (((((v1 >>> ((v3).toInt64 &&& 63)) &&& (255 : Int64))).toInt32).toInt8.toInt32))))]) iB lB aB iC aC) H := Eq.mp (congrArg (fun w => va_P (dC, dI) vwCl w H) (stP_aP0 ad cy (ad 3) (us iP [(1, x_iP1)]) aP iB lB aB iC aC [(0, x_aP0)] ((upd x_aP0 x_iP1.toNatClampNeg (vp_nar .byte (((((v1 >>> ((v3).toInt64 &&& 63)) &&& (255 : Int64))).toInt32).toInt8.toInt32)))))) hP
            have hD : va_D A (zzP ad cy (ad 3) (us iP [(1, x_iP1)]) (us aP [(0, (upd x_aP0 x_iP1.toNatClampNeg (vp_nar .byte (((((v1 >>> ((v3).toInt64 &&& 63)) &&& (255 : Int64))).toInt32).toInt8.toInt32))))]) iB lB aB iC aC) := Eq.mp (congrArg (fun w => va_D A w) (stP_aP0 ad cy (ad 3) (us iP [(1, x_iP1)]) aP iB lB aB iC aC [(0, x_aP0)] ((upd x_aP0 x_iP1.toNatClampNeg (vp_nar .byte (((((v1 >>> ((v3).toInt64 &&& 63)) &&& (255 : Int64))).toInt32).toInt8.toInt32)))))) hD
            refine lv_aload_n hx hb dX3_putWord_46 rfl (lv_at hl 1 rfl) ?_
            refine lv_dup hx hb dX3_putWord_47 rfl ?_
            refine va_get (D := (dC, dI)) (ci := 3) (v := .int x_iP1) (C := RX3) (T := TX3) (N := 5) hx hb hts ki3 hown hK hP 0 rfl rfl 1 (by decide) kf23 (fun _ h9 => h9) rfl dX3_putWord_48 ?_
            refine lv_iconst (v := 1) hx hb dX3_putWord_51 (by decide) ?_
            refine lv_iadd hx hb dX3_putWord_52 ?_
            refine va_put (D := (dC, dI)) (ci := 3) (v := .int ((x_iP1 + (1 : Int32)))) (ty := .int) (C := RX3) (T := TX3) (N := 5) hx hb hts ki3 tyX3 tyX3_ok nmX3 hown hK hP hD hS 0 rfl rfl 1 (by decide) kf23 (fun _ h9 => h9) rfl (by decide +kernel) rfl rfl (Nat.le_of_ble_eq_true rfl) dX3_putWord_53 (fun H locs hP hD hS => ?_)
            have hP : va_P (dC, dI) vwCl (zzP ad cy (ad 3) (us iP [(1, (x_iP1 + (1 : Int32)))]) (us aP [(0, (upd x_aP0 x_iP1.toNatClampNeg (vp_nar .byte (((((v1 >>> ((v3).toInt64 &&& 63)) &&& (255 : Int64))).toInt32).toInt8.toInt32))))]) iB lB aB iC aC) H := Eq.mp (congrArg (fun w => va_P (dC, dI) vwCl w H) (stP_iP1 ad cy (ad 3) iP (us aP [(0, (upd x_aP0 x_iP1.toNatClampNeg (vp_nar .byte (((((v1 >>> ((v3).toInt64 &&& 63)) &&& (255 : Int64))).toInt32).toInt8.toInt32))))]) iB lB aB iC aC [(1, x_iP1)] ((x_iP1 + (1 : Int32))))) hP
            have hD : va_D A (zzP ad cy (ad 3) (us iP [(1, (x_iP1 + (1 : Int32)))]) (us aP [(0, (upd x_aP0 x_iP1.toNatClampNeg (vp_nar .byte (((((v1 >>> ((v3).toInt64 &&& 63)) &&& (255 : Int64))).toInt32).toInt8.toInt32))))]) iB lB aB iC aC) := Eq.mp (congrArg (fun w => va_D A w) (stP_iP1 ad cy (ad 3) iP (us aP [(0, (upd x_aP0 x_iP1.toNatClampNeg (vp_nar .byte (((((v1 >>> ((v3).toInt64 &&& 63)) &&& (255 : Int64))).toInt32).toInt8.toInt32))))]) iB lB aB iC aC [(1, x_iP1)] ((x_iP1 + (1 : Int32))))) hD
            refine lv_iinc (v := (v3 + (-8 : Int32))) (lv' := [(3, .int ((v3 + (-8 : Int32)))), (4, .long (((v1 >>> ((v3).toInt64 &&& 63)) &&& (255 : Int64)))), (0, .ref (ad 0)), (1, .long v1)]) hx hb dX3_putWord_56 hl (k := 3) rfl rfl (by decide) rfl (fun ls hl => ?_)
            refine lv_goto (tgt := 3) hx hb dX3_putWord_59 (by decide) ?_
            exact ih v1 ((v3 + (-8 : Int32))) ((x_iP1 + (1 : Int32))) ((upd x_aP0 x_iP1.toNatClampNeg (vp_nar .byte (((((v1 >>> ((v3).toInt64 &&& 63)) &&& (255 : Int64))).toInt32).toInt8.toInt32)))) H locs ls h hP hD hS (lv_sub hl [2, 3, 0] rfl)
  intro H locs hP hD hS
  unfold f_P_putWord at h
  refine lv_bipush (v := 56) hx hb dX3_putWord_0 (by decide) ?_
  refine lv_istore_n (lv' := [(3, .int ((56 : Int32))), (0, .ref (ad 0)), (1, .long a1)]) hx hb dX3_putWord_2 rfl hl (by decide) rfl (fun ls hl => ?_)
  exact B3 N a1 ((56 : Int32)) (iP 1) (aP 0) H locs ls h hP hD hS (lv_sub hl [1, 2, 0] rfl)
set_option maxHeartbeats 8000000 in
set_option maxRecDepth 100000 in
theorem c_P_putBehind (l : Launch) (dC : Nat → ClassId) (dI : Nat → Nat → Nat) (cy : Nat → ClassId) (ad : Nat → Nat) (sz : Nat) (N : Nat) (a1 : Int64) (iP : Nat → Int32) (aP : Nat → Nat → Int32) (iB : Nat → Int32) (lB : Nat → Nat → Int64) (aB : Nat → Nat → Int32) (iC : Nat → Int32) (aC : Nat → Nat → Int32) (q : Int32 × (Nat → Int32)) (h : f_P_putBehind N a1 (iP 1) (aP 0) = some q) : Met l yX3_putBehind wsX3_putBehind ({ frames := 1, cells := 0, slots := 0, locals := 25 } : Room) (cP (dC, dI) cy [.ref (ad 0), .long a1] (zzP ad cy (ad 3) iP aP iB lB aB iC aC) sz) (cQv (dC, dI) cy (zzP ad cy (ad 3) (us iP [(1, q.1)]) (us aP [(0, q.2)]) iB lB aB iC aC) (va_A (zzP ad cy (ad 3) iP aP iB lB aB iC aC) sz)) 0 0 (va_A (zzP ad cy (ad 3) iP aP iB lB aB iC aC) sz) := by
  refine Met.ofW (cc := cX3_putBehind) (maxL := 3) (ret := none) (by decide) rfl ?_
  intro p e s m args below meth c s₁ B hml hv
  obtain ⟨hav, hsz, hP, hK, hD0, hN⟩ := hv
  have hx := B.exec
  have hb := B.bytes
  have hr := B.returns
  have hts := atoms_spec (ws := wsX3_putBehind) B.pre
  have hown : s.vm.findClass RX3 = some m.cls := findClass_of_methodNamed B.named
  have hlocks := B.notSynchronized
  subst hsz
  have hD := hD0.self (sz := s.heap.size)
  generalize hAe : va_A (zzP ad cy (ad 3) iP aP iB lB aB iC aC) s.heap.size = A at hD ⊢
  have hA : ∀ q : Nat, s.heap.size ≤ q → A q := fun q h => by rw [← hAe]; exact Or.inr h
  have hS : va_S A s.heap s.heap [] := va_S.rf
  generalize hWQ : (zzP ad cy (ad 3) (us iP [(1, q.1)]) (us aP [(0, q.2)]) iB lB aB iC aC) = WQ
  generalize hQQ : MQ below (cQv (dC, dI) cy WQ A) args s 0 0 A = QQ
  have hl := lv_entry ([.ref (ad 0), .long a1] : List Value) (n := 3) (Nat.le_of_ble_eq_true rfl)
  have hfr := lg_entry_eq m ([.ref (ad 0), .long a1] : List Value) 3
  rw [← hav] at hfr
  rw [hfr]
  clear hfr hav
  generalize (lg_sl ([.ref (ad 0), .long a1] : List Value) ++ List.replicate (3 - (lg_sl ([.ref (ad 0), .long a1] : List Value)).length) Slot.unset).toArray = ls at hl ⊢
  have hl : lv_has ls 3 [(0, .ref (ad 0)), (1, .long a1)] := hl
  have kc60 := hts _ (List.mem_cons_of_mem _ m_kl_X3_60)
  refine (?_ : ∀ (H : Heap) (locs : List Loc), va_P (dC, dI) vwCl (zzP ad cy (ad 3) iP aP iB lB aB iC aC) H → va_D A (zzP ad cy (ad 3) iP aP iB lB aB iC aC) → va_S A s.heap H locs → W p l e ({ frames := 1, cells := 0, slots := 0, locals := 25 } : Room) s m args below meth c H locs 0 0 QQ (F0 m 0 ls [])) s.heap [] hP hD hS
  clear hP hD hS
  intro H locs hP hD hS
  unfold f_P_putBehind at h
  refine lv_aload_n hx hb dX3_putBehind_0 rfl (lv_at hl 0 rfl) ?_
  refine lv_lload_n hx hb dX3_putBehind_1 rfl (lv_at hl 1 rfl) ?_
  obtain ⟨q2, e2, h⟩ := g_b h
  refine callVvs (cc := cX3_putBehind) (w1 := zzP ad cy (ad 3) (us iP [(1, q2.1)]) (us aP [(0, q2.2)]) iB lB aB iC aC) (As := [.long a1]) (rest := []) ⟨hx, hb, hml, hown, hts⟩ (c_P_putWord l dC dI cy ad H.size N a1 iP aP iB lB aB iC aC q2 e2) (cwV 1 hts (goodV m_ml_X3_42 m_im_X3_putWord m_se_X3_putWord m_in_X3 m_cd_X3_putWord) rfl rfl rfl (by decide +kernel) ⟨Nat.le_of_ble_eq_true rfl, Nat.le_of_ble_eq_true rfl⟩) hN hK hP hD hS hA rfl 0 rfl rfl rfl hl.1 rfl (Nat.le_of_ble_eq_true rfl) dX3_putBehind_2 ⟨Nat.zero_le _, Nat.zero_le _⟩ (fun H locs hP hD hS => ?_)
  refine lv_aload_n hx hb dX3_putBehind_5 rfl (lv_at hl 0 rfl) ?_
  refine lv_ldc2 (v := 32) hx hb hown kc60 dX3_putBehind_6 ?_
  obtain ⟨q9, e9, h⟩ := g_b h
  refine callVvs (cc := cX3_putBehind) (w1 := zzP ad cy (ad 3) (us iP [(1, q9.1)]) (us aP [(0, q9.2)]) iB lB aB iC aC) (As := [.long ((32 : Int64))]) (rest := []) ⟨hx, hb, hml, hown, hts⟩ (c_P_putWord l dC dI cy ad H.size N ((32 : Int64)) ((us iP [(1, q2.1)])) ((us aP [(0, q2.2)])) iB lB aB iC aC q9 e9) (cwV 1 hts (goodV m_ml_X3_42 m_im_X3_putWord m_se_X3_putWord m_in_X3 m_cd_X3_putWord) rfl rfl rfl (by decide +kernel) ⟨Nat.le_of_ble_eq_true rfl, Nat.le_of_ble_eq_true rfl⟩) hN hK hP hD hS hA rfl 0 rfl rfl rfl hl.1 rfl (Nat.le_of_ble_eq_true rfl) dX3_putBehind_9 ⟨Nat.zero_le _, Nat.zero_le _⟩ (fun H locs hP hD hS => ?_)
  have h' := Option.some.inj h
  rw [← hQQ]
  exact W.vret hx hb hr (fun t ht hW => ⟨⟨(), rfl, trivial, by rw [← hWQ, ← h', ht]; exact hP, va_K.moved hW.alike hK⟩, hS.F ht⟩) hS.2.2 dX3_putBehind_12
set_option maxHeartbeats 8000000 in
set_option maxRecDepth 100000 in
theorem c_B_roleWord (l : Launch) (dC : Nat → ClassId) (dI : Nat → Nat → Nat) (cy : Nat → ClassId) (ad : Nat → Nat) (sz : Nat) (a1 : Int32) (iB : Nat → Int32) (lB : Nat → Nat → Int64) (aB : Nat → Nat → Int32) (iC : Nat → Int32) (aC : Nat → Nat → Int32) (q : Int64) (h : f_B_roleWord a1 (iB 5) (lB 4) = some q) : Met l yX0_roleWord wsX0_roleWord ({ frames := 0, cells := 0, slots := 0, locals := 0 } : Room) (cP (dC, dI) cy [.ref (ad 0), .int a1] (zzB ad cy iB lB aB iC aC) sz) (cQl (dC, dI) cy q (zzB ad cy iB lB aB iC aC) (va_A (zzB ad cy iB lB aB iC aC) sz)) 0 0 (va_A (zzB ad cy iB lB aB iC aC) sz) := by
  refine Met.ofW (cc := cX0_roleWord) (maxL := 2) (ret := (some .long)) (by decide) rfl ?_
  intro p e s m args below meth c s₁ B hml hv
  obtain ⟨hav, hsz, hP, hK, hD0, hN⟩ := hv
  have hx := B.exec
  have hb := B.bytes
  have hr := B.returns
  have hts := atoms_spec (ws := wsX0_roleWord) B.pre
  have hown : s.vm.findClass RX0 = some m.cls := findClass_of_methodNamed B.named
  have hlocks := B.notSynchronized
  subst hsz
  have hD := hD0.self (sz := s.heap.size)
  generalize hAe : va_A (zzB ad cy iB lB aB iC aC) s.heap.size = A at hD ⊢
  have hA : ∀ q : Nat, s.heap.size ≤ q → A q := fun q h => by rw [← hAe]; exact Or.inr h
  have hS : va_S A s.heap s.heap [] := va_S.rf
  generalize hWQ : (zzB ad cy iB lB aB iC aC) = WQ
  generalize hQQ : MQ below (cQl (dC, dI) cy q WQ A) args s 0 0 A = QQ
  have hl := lv_entry ([.ref (ad 0), .int a1] : List Value) (n := 2) (Nat.le_of_ble_eq_true rfl)
  have hfr := lg_entry_eq m ([.ref (ad 0), .int a1] : List Value) 2
  rw [← hav] at hfr
  rw [hfr]
  clear hfr hav
  generalize (lg_sl ([.ref (ad 0), .int a1] : List Value) ++ List.replicate (2 - (lg_sl ([.ref (ad 0), .int a1] : List Value)).length) Slot.unset).toArray = ls at hl ⊢
  have hl : lv_has ls 2 [(0, .ref (ad 0)), (1, .int a1)] := hl
  have kf48 := hts _ (List.mem_cons_of_mem _ m_fl_X0_48)
  have ki0 := (fun w h => List.mem_cons_of_mem _ (i_X0 w h) : ∀ w ∈ u_ws RX0 TX0 15, w ∈ wsX0_roleWord)
  have kf22 := hts _ (List.mem_cons_of_mem _ m_fl_X0_22)
  refine (?_ : ∀ (H : Heap) (locs : List Loc), va_P (dC, dI) vwCl (zzB ad cy iB lB aB iC aC) H → va_D A (zzB ad cy iB lB aB iC aC) → va_S A s.heap H locs → W p l e ({ frames := 0, cells := 0, slots := 0, locals := 0 } : Room) s m args below meth c H locs 0 0 QQ (F0 m 0 ls [])) s.heap [] hP hD hS
  clear hP hD hS
  intro H locs hP hD hS
  unfold f_B_roleWord at h
  refine lv_iload_n hx hb dX0_roleWord_0 rfl (lv_at hl 1 rfl) ?_
  refine lv_if_lt (tgt := 21) hx hb dX0_roleWord_1 (by decide) (fun cz => ?_) (fun cz => ?_)
  · have h := g_t h cz
    refine lv_lconst (v := 0) hx hb dX0_roleWord_21 (by decide) ?_
    have h' := Option.some.inj h
    rw [← hQQ]
    exact W.lret (v := (0 : Int64)) hx hb hr (fun t ht hW => ⟨⟨(0 : Int64), (), rfl, by rw [← h'], by rw [← hWQ, ht]; exact hP, va_K.moved hW.alike hK⟩, hS.F ht⟩) hS.2.2 dX0_roleWord_22
  · have h := g_f h cz
    refine lv_iload_n hx hb dX0_roleWord_4 rfl (lv_at hl 1 rfl) ?_
    refine lv_aload_n hx hb dX0_roleWord_5 rfl (lv_at hl 0 rfl) ?_
    refine va_get (D := (dC, dI)) (ci := 0) (v := .int (iB 5)) (C := RX0) (T := TX0) (N := 15) hx hb hts ki0 hown hK hP 0 rfl rfl 5 (by decide) kf48 (fun _ h9 => h9) rfl dX0_roleWord_6 ?_
    refine lv_icmp_ge (tgt := 21) hx hb dX0_roleWord_9 (by decide) (fun cz => ?_) (fun cz => ?_)
    · have h := g_t h cz
      refine lv_lconst (v := 0) hx hb dX0_roleWord_21 (by decide) ?_
      have h' := Option.some.inj h
      rw [← hQQ]
      exact W.lret (v := (0 : Int64)) hx hb hr (fun t ht hW => ⟨⟨(0 : Int64), (), rfl, by rw [← h'], by rw [← hWQ, ht]; exact hP, va_K.moved hW.alike hK⟩, hS.F ht⟩) hS.2.2 dX0_roleWord_22
    · have h := g_f h cz
      refine lv_aload_n hx hb dX0_roleWord_12 rfl (lv_at hl 0 rfl) ?_
      refine va_get (D := (dC, dI)) (ci := 0) (v := .ref (ad 2)) (C := RX0) (T := TX0) (N := 15) hx hb hts ki0 hown hK hP 0 rfl rfl 4 (by decide) kf22 (fun _ h9 => h9) rfl dX0_roleWord_13 ?_
      refine lv_iload_n hx hb dX0_roleWord_16 rfl (lv_at hl 1 rfl) ?_
      obtain ⟨g_16, h⟩ := g_n h
      refine va_lald (f := (lB 4)) hx hb hK hP 2 2 rfl rfl g_16 dX0_roleWord_17 ?_
      refine lv_goto (tgt := 22) hx hb dX0_roleWord_18 (by decide) ?_
      have h' := Option.some.inj h
      rw [← hQQ]
      exact W.lret (v := ((lB 4) a1.toNatClampNeg)) hx hb hr (fun t ht hW => ⟨⟨((lB 4) a1.toNatClampNeg), (), rfl, by rw [← h'], by rw [← hWQ, ht]; exact hP, va_K.moved hW.alike hK⟩, hS.F ht⟩) hS.2.2 dX0_roleWord_22
set_option maxHeartbeats 8000000 in
set_option maxRecDepth 100000 in
theorem c_P_await (l : Launch) (dC : Nat → ClassId) (dI : Nat → Nat → Nat) (cy : Nat → ClassId) (ad : Nat → Nat) (sz : Nat) (a1 : Int32) (iP : Nat → Int32) (aP : Nat → Nat → Int32) (iB : Nat → Int32) (lB : Nat → Nat → Int64) (aB : Nat → Nat → Int32) (iC : Nat → Int32) (aC : Nat → Nat → Int32) (q : Int32 × (Nat → Int32)) (h : f_P_await a1 (iP 4) (aP 3) = some q) : Met l yX3_await wsX3_await ({ frames := 0, cells := 0, slots := 0, locals := 0 } : Room) (cP (dC, dI) cy [.ref (ad 0), .int a1] (zzP ad cy (ad 3) iP aP iB lB aB iC aC) sz) (cQv (dC, dI) cy (zzP ad cy (ad 3) (us iP [(4, q.1)]) (us aP [(3, q.2)]) iB lB aB iC aC) (va_A (zzP ad cy (ad 3) iP aP iB lB aB iC aC) sz)) 0 0 (va_A (zzP ad cy (ad 3) iP aP iB lB aB iC aC) sz) := by
  refine Met.ofW (cc := cX3_await) (maxL := 2) (ret := none) (by decide) rfl ?_
  intro p e s m args below meth c s₁ B hml hv
  obtain ⟨hav, hsz, hP, hK, hD0, hN⟩ := hv
  have hx := B.exec
  have hb := B.bytes
  have hr := B.returns
  have hts := atoms_spec (ws := wsX3_await) B.pre
  have hown : s.vm.findClass RX3 = some m.cls := findClass_of_methodNamed B.named
  have hlocks := B.notSynchronized
  subst hsz
  have hD := hD0.self (sz := s.heap.size)
  generalize hAe : va_A (zzP ad cy (ad 3) iP aP iB lB aB iC aC) s.heap.size = A at hD ⊢
  have hA : ∀ q : Nat, s.heap.size ≤ q → A q := fun q h => by rw [← hAe]; exact Or.inr h
  have hS : va_S A s.heap s.heap [] := va_S.rf
  generalize hWQ : (zzP ad cy (ad 3) (us iP [(4, q.1)]) (us aP [(3, q.2)]) iB lB aB iC aC) = WQ
  generalize hQQ : MQ below (cQv (dC, dI) cy WQ A) args s 0 0 A = QQ
  have hl := lv_entry ([.ref (ad 0), .int a1] : List Value) (n := 2) (Nat.le_of_ble_eq_true rfl)
  have hfr := lg_entry_eq m ([.ref (ad 0), .int a1] : List Value) 2
  rw [← hav] at hfr
  rw [hfr]
  clear hfr hav
  generalize (lg_sl ([.ref (ad 0), .int a1] : List Value) ++ List.replicate (2 - (lg_sl ([.ref (ad 0), .int a1] : List Value)).length) Slot.unset).toArray = ls at hl ⊢
  have hl : lv_has ls 2 [(0, .ref (ad 0)), (1, .int a1)] := hl
  have kf79 := hts _ (List.mem_cons_of_mem _ m_fl_X3_79)
  have ki3 := (fun w h => List.mem_cons_of_mem _ (i_X3 w h) : ∀ w ∈ u_ws RX3 TX3 5, w ∈ wsX3_await)
  have kf15 := hts _ (List.mem_cons_of_mem _ m_fl_X3_15)
  refine (?_ : ∀ (H : Heap) (locs : List Loc), va_P (dC, dI) vwCl (zzP ad cy (ad 3) iP aP iB lB aB iC aC) H → va_D A (zzP ad cy (ad 3) iP aP iB lB aB iC aC) → va_S A s.heap H locs → W p l e ({ frames := 0, cells := 0, slots := 0, locals := 0 } : Room) s m args below meth c H locs 0 0 QQ (F0 m 0 ls [])) s.heap [] hP hD hS
  clear hP hD hS
  intro H locs hP hD hS
  unfold f_P_await at h
  refine lv_aload_n hx hb dX3_await_0 rfl (lv_at hl 0 rfl) ?_
  refine va_get (D := (dC, dI)) (ci := 3) (v := .int (iP 4)) (C := RX3) (T := TX3) (N := 5) hx hb hts ki3 hown hK hP 0 rfl rfl 4 (by decide) kf79 (fun _ h9 => h9) rfl dX3_await_1 ?_
  refine lv_if_lt (tgt := 37) hx hb dX3_await_4 (by decide) (fun cz => ?_) (fun cz => ?_)
  · have h := g_t h cz
    have h' := Option.some.inj h
    rw [← hQQ]
    exact W.vret hx hb hr (fun t ht hW => ⟨⟨(), rfl, trivial, by rw [← hWQ, ← h', ht]; exact hP, va_K.moved hW.alike hK⟩, hS.F ht⟩) hS.2.2 dX3_await_37
  · have h := g_f h cz
    refine lv_aload_n hx hb dX3_await_7 rfl (lv_at hl 0 rfl) ?_
    refine va_get (D := (dC, dI)) (ci := 3) (v := .int (iP 4)) (C := RX3) (T := TX3) (N := 5) hx hb hts ki3 hown hK hP 0 rfl rfl 4 (by decide) kf79 (fun _ h9 => h9) rfl dX3_await_8 ?_
    refine lv_sipush (v := 500) hx hb dX3_await_11 (by decide) ?_
    refine lv_icmp_ge (tgt := 37) hx hb dX3_await_14 (by decide) (fun cz => ?_) (fun cz => ?_)
    · have h := g_t h cz
      have h' := Option.some.inj h
      rw [← hQQ]
      exact W.vret hx hb hr (fun t ht hW => ⟨⟨(), rfl, trivial, by rw [← hWQ, ← h', ht]; exact hP, va_K.moved hW.alike hK⟩, hS.F ht⟩) hS.2.2 dX3_await_37
    · have h := g_f h cz
      refine lv_aload_n hx hb dX3_await_17 rfl (lv_at hl 0 rfl) ?_
      refine va_get (D := (dC, dI)) (ci := 3) (v := .ref (ad 2)) (C := RX3) (T := TX3) (N := 5) hx hb hts ki3 hown hK hP 0 rfl rfl 3 (by decide) kf15 (fun _ h9 => h9) rfl dX3_await_18 ?_
      refine lv_aload_n hx hb dX3_await_21 rfl (lv_at hl 0 rfl) ?_
      refine va_get (D := (dC, dI)) (ci := 3) (v := .int (iP 4)) (C := RX3) (T := TX3) (N := 5) hx hb hts ki3 hown hK hP 0 rfl rfl 4 (by decide) kf79 (fun _ h9 => h9) rfl dX3_await_22 ?_
      refine lv_iload_n hx hb dX3_await_25 rfl (lv_at hl 1 rfl) ?_
      obtain ⟨g_43, h⟩ := g_n h
      refine va_iast (f := (aP 3)) hx hb hK hP hD hS 2 0 rfl rfl g_43 dX3_await_26 (fun H locs hP hD hS => ?_)
      have hP : va_P (dC, dI) vwCl (zzP ad cy (ad 3) iP (us aP [(3, (upd (aP 3) (iP 4).toNatClampNeg a1))]) iB lB aB iC aC) H := Eq.mp (congrArg (fun w => va_P (dC, dI) vwCl w H) (sfP_aP3 ad cy (ad 3) iP aP iB lB aB iC aC ((upd (aP 3) (iP 4).toNatClampNeg a1)))) hP
      have hD : va_D A (zzP ad cy (ad 3) iP (us aP [(3, (upd (aP 3) (iP 4).toNatClampNeg a1))]) iB lB aB iC aC) := Eq.mp (congrArg (fun w => va_D A w) (sfP_aP3 ad cy (ad 3) iP aP iB lB aB iC aC ((upd (aP 3) (iP 4).toNatClampNeg a1)))) hD
      refine lv_aload_n hx hb dX3_await_27 rfl (lv_at hl 0 rfl) ?_
      refine lv_dup hx hb dX3_await_28 rfl ?_
      refine va_get (D := (dC, dI)) (ci := 3) (v := .int (iP 4)) (C := RX3) (T := TX3) (N := 5) hx hb hts ki3 hown hK hP 0 rfl rfl 4 (by decide) kf79 (fun _ h9 => h9) rfl dX3_await_29 ?_
      refine lv_iconst (v := 1) hx hb dX3_await_32 (by decide) ?_
      refine lv_iadd hx hb dX3_await_33 ?_
      refine va_put (D := (dC, dI)) (ci := 3) (v := .int (((iP 4) + (1 : Int32)))) (ty := .int) (C := RX3) (T := TX3) (N := 5) hx hb hts ki3 tyX3 tyX3_ok nmX3 hown hK hP hD hS 0 rfl rfl 4 (by decide) kf79 (fun _ h9 => h9) rfl (by decide +kernel) rfl rfl (Nat.le_of_ble_eq_true rfl) dX3_await_34 (fun H locs hP hD hS => ?_)
      have hP : va_P (dC, dI) vwCl (zzP ad cy (ad 3) (us iP [(4, ((iP 4) + (1 : Int32)))]) (us aP [(3, (upd (aP 3) (iP 4).toNatClampNeg a1))]) iB lB aB iC aC) H := Eq.mp (congrArg (fun w => va_P (dC, dI) vwCl w H) (sfP_iP4 ad cy (ad 3) iP (us aP [(3, (upd (aP 3) (iP 4).toNatClampNeg a1))]) iB lB aB iC aC (((iP 4) + (1 : Int32))))) hP
      have hD : va_D A (zzP ad cy (ad 3) (us iP [(4, ((iP 4) + (1 : Int32)))]) (us aP [(3, (upd (aP 3) (iP 4).toNatClampNeg a1))]) iB lB aB iC aC) := Eq.mp (congrArg (fun w => va_D A w) (sfP_iP4 ad cy (ad 3) iP (us aP [(3, (upd (aP 3) (iP 4).toNatClampNeg a1))]) iB lB aB iC aC (((iP 4) + (1 : Int32))))) hD
      have h' := Option.some.inj h
      rw [← hQQ]
      exact W.vret hx hb hr (fun t ht hW => ⟨⟨(), rfl, trivial, by rw [← hWQ, ← h', ht]; exact hP, va_K.moved hW.alike hK⟩, hS.F ht⟩) hS.2.2 dX3_await_37
set_option maxHeartbeats 8000000 in
set_option maxRecDepth 100000 in
theorem c_P_awaitPart (l : Launch) (dC : Nat → ClassId) (dI : Nat → Nat → Nat) (cy : Nat → ClassId) (ad : Nat → Nat) (sz : Nat) (a1 : Int32) (a2 : Int32) (iP : Nat → Int32) (aP : Nat → Nat → Int32) (iB : Nat → Int32) (lB : Nat → Nat → Int64) (aB : Nat → Nat → Int32) (iC : Nat → Int32) (aC : Nat → Nat → Int32) (q : Int32 × (Nat → Int32)) (h : f_P_awaitPart a1 a2 (iP 4) (aP 3) = some q) : Met l yX3_awaitPart wsX3_awaitPart ({ frames := 1, cells := 0, slots := 0, locals := 21 } : Room) (cP (dC, dI) cy [.ref (ad 0), .int a1, .int a2] (zzP ad cy (ad 3) iP aP iB lB aB iC aC) sz) (cQv (dC, dI) cy (zzP ad cy (ad 3) (us iP [(4, q.1)]) (us aP [(3, q.2)]) iB lB aB iC aC) (va_A (zzP ad cy (ad 3) iP aP iB lB aB iC aC) sz)) 0 0 (va_A (zzP ad cy (ad 3) iP aP iB lB aB iC aC) sz) := by
  refine Met.ofW (cc := cX3_awaitPart) (maxL := 3) (ret := none) (by decide) rfl ?_
  intro p e s m args below meth c s₁ B hml hv
  obtain ⟨hav, hsz, hP, hK, hD0, hN⟩ := hv
  have hx := B.exec
  have hb := B.bytes
  have hr := B.returns
  have hts := atoms_spec (ws := wsX3_awaitPart) B.pre
  have hown : s.vm.findClass RX3 = some m.cls := findClass_of_methodNamed B.named
  have hlocks := B.notSynchronized
  subst hsz
  have hD := hD0.self (sz := s.heap.size)
  generalize hAe : va_A (zzP ad cy (ad 3) iP aP iB lB aB iC aC) s.heap.size = A at hD ⊢
  have hA : ∀ q : Nat, s.heap.size ≤ q → A q := fun q h => by rw [← hAe]; exact Or.inr h
  have hS : va_S A s.heap s.heap [] := va_S.rf
  generalize hWQ : (zzP ad cy (ad 3) (us iP [(4, q.1)]) (us aP [(3, q.2)]) iB lB aB iC aC) = WQ
  generalize hQQ : MQ below (cQv (dC, dI) cy WQ A) args s 0 0 A = QQ
  have hl := lv_entry ([.ref (ad 0), .int a1, .int a2] : List Value) (n := 3) (Nat.le_of_ble_eq_true rfl)
  have hfr := lg_entry_eq m ([.ref (ad 0), .int a1, .int a2] : List Value) 3
  rw [← hav] at hfr
  rw [hfr]
  clear hfr hav
  generalize (lg_sl ([.ref (ad 0), .int a1, .int a2] : List Value) ++ List.replicate (3 - (lg_sl ([.ref (ad 0), .int a1, .int a2] : List Value)).length) Slot.unset).toArray = ls at hl ⊢
  have hl : lv_has ls 3 [(0, .ref (ad 0)), (1, .int a1), (2, .int a2)] := hl
  refine (?_ : ∀ (H : Heap) (locs : List Loc), va_P (dC, dI) vwCl (zzP ad cy (ad 3) iP aP iB lB aB iC aC) H → va_D A (zzP ad cy (ad 3) iP aP iB lB aB iC aC) → va_S A s.heap H locs → W p l e ({ frames := 1, cells := 0, slots := 0, locals := 21 } : Room) s m args below meth c H locs 0 0 QQ (F0 m 0 ls [])) s.heap [] hP hD hS
  clear hP hD hS
  have B10 : ∀ (v1 : Int32) (v2 : Int32) (x_iP4 : Int32) (x_aP3 : Nat → Int32) (H : Heap) (locs : List Loc) (ls : Array Slot), f_P_awaitPart_10 (iP 4) (aP 3) v1 v2 x_iP4 x_aP3 = some q → va_P (dC, dI) vwCl (zzP ad cy (ad 3) (us iP [(4, x_iP4)]) (us aP [(3, x_aP3)]) iB lB aB iC aC) H → va_D A (zzP ad cy (ad 3) (us iP [(4, x_iP4)]) (us aP [(3, x_aP3)]) iB lB aB iC aC) → va_S A s.heap H locs → lv_has ls 3 [(0, .ref (ad 0)), (1, .int v1), (2, .int v2)] → W p l e ({ frames := 1, cells := 0, slots := 0, locals := 21 } : Room) s m args below meth c H locs 0 0 QQ (F0 m 10 ls []) := by
    intro v1 v2 x_iP4 x_aP3 H locs ls h hP hD hS hl
    unfold f_P_awaitPart_10 at h
    refine lv_aload_n hx hb dX3_awaitPart_10 rfl (lv_at hl 0 rfl) ?_
    refine lv_iload_n hx hb dX3_awaitPart_11 rfl (lv_at hl 1 rfl) ?_
    obtain ⟨q12, e12, h⟩ := g_b h
    refine callVvs (cc := cX3_awaitPart) (w1 := zzP ad cy (ad 3) (us iP [(4, q12.1)]) (us aP [(3, q12.2)]) iB lB aB iC aC) (As := [.int v1]) (rest := []) ⟨hx, hb, hml, hown, hts⟩ (c_P_await l dC dI cy ad H.size v1 ((us iP [(4, x_iP4)])) ((us aP [(3, x_aP3)])) iB lB aB iC aC q12 e12) (cwV 1 hts (goodV m_ml_X3_82 m_im_X3_await m_se_X3_await m_in_X3 m_cd_X3_await) rfl rfl rfl (by decide +kernel) ⟨Nat.le_of_ble_eq_true rfl, Nat.le_of_ble_eq_true rfl⟩) hN hK hP hD hS hA rfl 0 rfl rfl rfl hl.1 rfl (Nat.le_of_ble_eq_true rfl) dX3_awaitPart_12 ⟨Nat.zero_le _, Nat.zero_le _⟩ (fun H locs hP hD hS => ?_)
    refine lv_iload_n hx hb dX3_awaitPart_15 rfl (lv_at hl 2 rfl) ?_
    refine lv_if_eq (tgt := 24) hx hb dX3_awaitPart_16 (by decide) (fun cz => ?_) (fun cz => ?_)
    · have h := g_t h cz
      have h' := Option.some.inj h
      rw [← hQQ]
      exact W.vret hx hb hr (fun t ht hW => ⟨⟨(), rfl, trivial, by rw [← hWQ, ← h', ht]; exact hP, va_K.moved hW.alike hK⟩, hS.F ht⟩) hS.2.2 dX3_awaitPart_24
    · have h := g_f h cz
      refine lv_aload_n hx hb dX3_awaitPart_19 rfl (lv_at hl 0 rfl) ?_
      refine lv_iconst (v := (-1)) hx hb dX3_awaitPart_20 (by decide) ?_
      obtain ⟨q21, e21, h⟩ := g_b h
      refine callVvs (cc := cX3_awaitPart) (w1 := zzP ad cy (ad 3) (us iP [(4, q21.1)]) (us aP [(3, q21.2)]) iB lB aB iC aC) (As := [.int ((-1 : Int32))]) (rest := []) ⟨hx, hb, hml, hown, hts⟩ (c_P_await l dC dI cy ad H.size ((-1 : Int32)) ((us iP [(4, q12.1)])) ((us aP [(3, q12.2)])) iB lB aB iC aC q21 e21) (cwV 1 hts (goodV m_ml_X3_82 m_im_X3_await m_se_X3_await m_in_X3 m_cd_X3_await) rfl rfl rfl (by decide +kernel) ⟨Nat.le_of_ble_eq_true rfl, Nat.le_of_ble_eq_true rfl⟩) hN hK hP hD hS hA rfl 0 rfl rfl rfl hl.1 rfl (Nat.le_of_ble_eq_true rfl) dX3_awaitPart_21 ⟨Nat.zero_le _, Nat.zero_le _⟩ (fun H locs hP hD hS => ?_)
      have h' := Option.some.inj h
      rw [← hQQ]
      exact W.vret hx hb hr (fun t ht hW => ⟨⟨(), rfl, trivial, by rw [← hWQ, ← h', ht]; exact hP, va_K.moved hW.alike hK⟩, hS.F ht⟩) hS.2.2 dX3_awaitPart_24
  intro H locs hP hD hS
  unfold f_P_awaitPart at h
  refine lv_iload_n hx hb dX3_awaitPart_0 rfl (lv_at hl 2 rfl) ?_
  refine lv_if_eq (tgt := 10) hx hb dX3_awaitPart_1 (by decide) (fun cz => ?_) (fun cz => ?_)
  · have h := g_t h cz
    exact B10 a1 a2 (iP 4) (aP 3) H locs ls h hP hD hS (lv_sub hl [0, 1, 2] rfl)
  · have h := g_f h cz
    refine lv_aload_n hx hb dX3_awaitPart_4 rfl (lv_at hl 0 rfl) ?_
    refine lv_bipush (v := (-2)) hx hb dX3_awaitPart_5 (by decide) ?_
    obtain ⟨q7, e7, h⟩ := g_b h
    refine callVvs (cc := cX3_awaitPart) (w1 := zzP ad cy (ad 3) (us iP [(4, q7.1)]) (us aP [(3, q7.2)]) iB lB aB iC aC) (As := [.int ((-2 : Int32))]) (rest := []) ⟨hx, hb, hml, hown, hts⟩ (c_P_await l dC dI cy ad H.size ((-2 : Int32)) iP aP iB lB aB iC aC q7 e7) (cwV 1 hts (goodV m_ml_X3_82 m_im_X3_await m_se_X3_await m_in_X3 m_cd_X3_await) rfl rfl rfl (by decide +kernel) ⟨Nat.le_of_ble_eq_true rfl, Nat.le_of_ble_eq_true rfl⟩) hN hK hP hD hS hA rfl 0 rfl rfl rfl hl.1 rfl (Nat.le_of_ble_eq_true rfl) dX3_awaitPart_7 ⟨Nat.zero_le _, Nat.zero_le _⟩ (fun H locs hP hD hS => ?_)
    exact B10 a1 a2 q7.1 q7.2 H locs ls h hP hD hS (lv_sub hl [0, 1, 2] rfl)
