set_option maxHeartbeats 8000000 in
set_option maxRecDepth 100000 in
theorem c_M_thing (l : Launch) (dC : Nat → ClassId) (dI : Nat → Nat → Nat) (cy : Nat → ClassId) (ad : Nat → Nat) (sz : Nat) (a1 : Int32) (iM : Nat → Int32) (aM : Nat → Nat → Int32) (q : Int32) (h : f_M_thing a1 (iM 37) (iM 66) (aM 67) = some q) : Met l yX8_thing wsX8_thing ({ frames := 1, cells := 0, slots := 0, locals := 25 } : Room) (cP (dC, dI) cy [.ref (ad 0), .int a1] (zzM ad cy iM aM) sz) (cQi (dC, dI) cy q (zzM ad cy iM aM) (va_A (zzM ad cy iM aM) sz)) 0 0 (va_A (zzM ad cy iM aM) sz) := by
  refine Met.ofW (cc := cX8_thing) (maxL := 2) (ret := (some .int)) (by decide) rfl ?_
  intro p e s m args below meth c s₁ B hml hv
  obtain ⟨hav, hsz, hP, hK, hD0, hN⟩ := hv
  have hx := B.exec
  have hb := B.bytes
  have hr := B.returns
  have hts := atoms_spec (ws := wsX8_thing) B.pre
  have hown : s.vm.findClass RX8 = some m.cls := findClass_of_methodNamed B.named
  have hlocks := B.notSynchronized
  subst hsz
  have hD := hD0.self (sz := s.heap.size)
  generalize hAe : va_A (zzM ad cy iM aM) s.heap.size = A at hD ⊢
  have hA : ∀ q : Nat, s.heap.size ≤ q → A q := fun q h => by rw [← hAe]; exact Or.inr h
  have hS : va_S A s.heap s.heap [] := va_S.rf
  generalize hWQ : (zzM ad cy iM aM) = WQ
  generalize hQQ : MQ below (cQi (dC, dI) cy q WQ A) args s 0 0 A = QQ
  have hl := lv_entry ([.ref (ad 0), .int a1] : List Value) (n := 2) (Nat.le_of_ble_eq_true rfl)
  have hfr := lg_entry_eq m ([.ref (ad 0), .int a1] : List Value) 2
  rw [← hav] at hfr
  rw [hfr]
  clear hfr hav
  generalize (lg_sl ([.ref (ad 0), .int a1] : List Value) ++ List.replicate (2 - (lg_sl ([.ref (ad 0), .int a1] : List Value)).length) Slot.unset).toArray = ls at hl ⊢
  have hl : lv_has ls 2 [(0, .ref (ad 0)), (1, .int a1)] := hl
  have kf356 := hts _ (List.mem_cons_of_mem _ m_fl_X8_356)
  have ki8 := (fun w h => List.mem_cons_of_mem _ (i_X8 w h) : ∀ w ∈ u_ws RX8 TX8 78, w ∈ wsX8_thing)
  have kf359 := hts _ (List.mem_cons_of_mem _ m_fl_X8_359)
  have kf123 := hts _ (List.mem_cons_of_mem _ m_fl_X8_123)
  refine (?_ : ∀ (H : Heap) (locs : List Loc), va_P (dC, dI) vwCl (zzM ad cy iM aM) H → va_D A (zzM ad cy iM aM) → va_S A s.heap H locs → W p l e ({ frames := 1, cells := 0, slots := 0, locals := 25 } : Room) s m args below meth c H locs 0 0 QQ (F0 m 0 ls [])) s.heap [] hP hD hS
  clear hP hD hS
  intro H locs hP hD hS
  unfold f_M_thing at h
  refine lv_aload_n hx hb dX8_thing_0 rfl (lv_at hl 0 rfl) ?_
  refine va_get (D := (dC, dI)) (ci := 8) (v := .int (iM 37)) (C := RX8) (T := TX8) (N := 78) hx hb hts ki8 hown hK hP 0 rfl rfl 37 (by decide) kf356 (fun _ h9 => h9) rfl dX8_thing_1 ?_
  refine lv_if_ne (tgt := 10) hx hb dX8_thing_4 (by decide) (fun cz => ?_) (fun cz => ?_)
  · have h := g_f h cz
    refine lv_iload_n hx hb dX8_thing_10 rfl (lv_at hl 1 rfl) ?_
    refine lv_i2l (v := (a1).toInt64) hx hb dX8_thing_11 rfl ?_
    refine lv_lconst (v := 0) hx hb dX8_thing_12 (by decide) ?_
    refine lv_aload_n hx hb dX8_thing_13 rfl (lv_at hl 0 rfl) ?_
    refine va_get (D := (dC, dI)) (ci := 8) (v := .int (iM 66)) (C := RX8) (T := TX8) (N := 78) hx hb hts ki8 hown hK hP 0 rfl rfl 66 (by decide) kf359 (fun _ h9 => h9) rfl dX8_thing_14 ?_
    refine lv_iconst (v := 1) hx hb dX8_thing_17 (by decide) ?_
    refine lv_isub hx hb dX8_thing_18 ?_
    refine lv_i2l (v := (((iM 66) - (1 : Int32))).toInt64) hx hb dX8_thing_19 rfl ?_
    obtain ⟨q20, e20, h⟩ := g_b h
    refine callSi (cc := cX8_thing) (ws' := zzM ad cy iM aM) (As := [.long (a1).toInt64, .long ((0 : Int64)), .long ((((iM 66) - (1 : Int32))).toInt64)]) (rest := []) ⟨hx, hb, hml, hown, hts⟩ (c_M_in l dC dI cy ad H.size (a1).toInt64 ((0 : Int64)) ((((iM 66) - (1 : Int32))).toInt64) q20 e20) (va_cwS 3 hts (goodS m_ml_X8_154 m_st_X8_in m_in_X8 m_cd_X8_in) rfl rfl rfl (by decide +kernel) ⟨Nat.le_of_ble_eq_true rfl, Nat.le_of_ble_eq_true rfl⟩) hN hK hP hD hS hA [] [none, none, none, none, none, none, none, none, none, none, none, none, none, none, none, none, none, none, none, none, none, none, none, none, none, none, none, none, none, none, none, none, none, none, none, none, none, none, none, none, none, none, none, none] rfl rfl rfl rfl rfl rfl rfl hl.1 rfl (Nat.le_of_ble_eq_true rfl) dX8_thing_20 ⟨Nat.zero_le _, Nat.zero_le _⟩ (fun H locs hP hD hS => ?_)
    refine lv_if_eq (tgt := 35) hx hb dX8_thing_23 (by decide) (fun cz => ?_) (fun cz => ?_)
    · have h := g_t h cz
      refine lv_bipush (v := (-102)) hx hb dX8_thing_35 (by decide) ?_
      have h' := Option.some.inj h
      rw [← hQQ]
      exact W.iret (v := (-102 : Int32)) hx hb hr (fun t ht hW => ⟨⟨(-102 : Int32), (), rfl, by rw [← h'], by rw [← hWQ, ht]; exact hP, va_K.moved hW.alike hK⟩, hS.F ht⟩) hS.2.2 dX8_thing_37
    · have h := g_f h cz
      refine lv_aload_n hx hb dX8_thing_26 rfl (lv_at hl 0 rfl) ?_
      refine va_get (D := (dC, dI)) (ci := 8) (v := .ref (ad 36)) (C := RX8) (T := TX8) (N := 78) hx hb hts ki8 hown hK hP 0 rfl rfl 67 (by decide) kf123 (fun _ h9 => h9) rfl dX8_thing_27 ?_
      refine lv_iload_n hx hb dX8_thing_30 rfl (lv_at hl 1 rfl) ?_
      obtain ⟨g_34, h⟩ := g_n h
      refine va_iald (f := (aM 67)) hx hb hK hP 36 0 rfl rfl g_34 dX8_thing_31 ?_
      refine lv_goto (tgt := 37) hx hb dX8_thing_32 (by decide) ?_
      have h' := Option.some.inj h
      rw [← hQQ]
      exact W.iret (v := ((aM 67) a1.toNatClampNeg)) hx hb hr (fun t ht hW => ⟨⟨((aM 67) a1.toNatClampNeg), (), rfl, by rw [← h'], by rw [← hWQ, ht]; exact hP, va_K.moved hW.alike hK⟩, hS.F ht⟩) hS.2.2 dX8_thing_37
  · have h := g_t h cz
    refine lv_bipush (v := (-101)) hx hb dX8_thing_7 (by decide) ?_
    have h' := Option.some.inj h
    rw [← hQQ]
    exact W.iret (v := (-101 : Int32)) hx hb hr (fun t ht hW => ⟨⟨(-101 : Int32), (), rfl, by rw [← h'], by rw [← hWQ, ht]; exact hP, va_K.moved hW.alike hK⟩, hS.F ht⟩) hS.2.2 dX8_thing_9
set_option maxHeartbeats 8000000 in
set_option maxRecDepth 100000 in
theorem c_M_edge (l : Launch) (dC : Nat → ClassId) (dI : Nat → Nat → Nat) (cy : Nat → ClassId) (ad : Nat → Nat) (sz : Nat) (a1 : Int32) (a2 : Int32) (iM : Nat → Int32) (aM : Nat → Nat → Int32) (q : Int32) (h : f_M_edge a1 a2 (iM 37) (iM 68) (aM 69) (aM 70) (aM 71) = some q) : Met l yX8_edge wsX8_edge ({ frames := 1, cells := 0, slots := 0, locals := 25 } : Room) (cP (dC, dI) cy [.ref (ad 0), .int a1, .int a2] (zzM ad cy iM aM) sz) (cQi (dC, dI) cy q (zzM ad cy iM aM) (va_A (zzM ad cy iM aM) sz)) 0 0 (va_A (zzM ad cy iM aM) sz) := by
  refine Met.ofW (cc := cX8_edge) (maxL := 3) (ret := (some .int)) (by decide) rfl ?_
  intro p e s m args below meth c s₁ B hml hv
  obtain ⟨hav, hsz, hP, hK, hD0, hN⟩ := hv
  have hx := B.exec
  have hb := B.bytes
  have hr := B.returns
  have hts := atoms_spec (ws := wsX8_edge) B.pre
  have hown : s.vm.findClass RX8 = some m.cls := findClass_of_methodNamed B.named
  have hlocks := B.notSynchronized
  subst hsz
  have hD := hD0.self (sz := s.heap.size)
  generalize hAe : va_A (zzM ad cy iM aM) s.heap.size = A at hD ⊢
  have hA : ∀ q : Nat, s.heap.size ≤ q → A q := fun q h => by rw [← hAe]; exact Or.inr h
  have hS : va_S A s.heap s.heap [] := va_S.rf
  generalize hWQ : (zzM ad cy iM aM) = WQ
  generalize hQQ : MQ below (cQi (dC, dI) cy q WQ A) args s 0 0 A = QQ
  have hl := lv_entry ([.ref (ad 0), .int a1, .int a2] : List Value) (n := 3) (Nat.le_of_ble_eq_true rfl)
  have hfr := lg_entry_eq m ([.ref (ad 0), .int a1, .int a2] : List Value) 3
  rw [← hav] at hfr
  rw [hfr]
  clear hfr hav
  generalize (lg_sl ([.ref (ad 0), .int a1, .int a2] : List Value) ++ List.replicate (3 - (lg_sl ([.ref (ad 0), .int a1, .int a2] : List Value)).length) Slot.unset).toArray = ls at hl ⊢
  have hl : lv_has ls 3 [(0, .ref (ad 0)), (1, .int a1), (2, .int a2)] := hl
  have kf356 := hts _ (List.mem_cons_of_mem _ m_fl_X8_356)
  have ki8 := (fun w h => List.mem_cons_of_mem _ (i_X8 w h) : ∀ w ∈ u_ws RX8 TX8 78, w ∈ wsX8_edge)
  have kf362 := hts _ (List.mem_cons_of_mem _ m_fl_X8_362)
  have kf132 := hts _ (List.mem_cons_of_mem _ m_fl_X8_132)
  have kf129 := hts _ (List.mem_cons_of_mem _ m_fl_X8_129)
  have kf126 := hts _ (List.mem_cons_of_mem _ m_fl_X8_126)
  refine (?_ : ∀ (H : Heap) (locs : List Loc), va_P (dC, dI) vwCl (zzM ad cy iM aM) H → va_D A (zzM ad cy iM aM) → va_S A s.heap H locs → W p l e ({ frames := 1, cells := 0, slots := 0, locals := 25 } : Room) s m args below meth c H locs 0 0 QQ (F0 m 0 ls [])) s.heap [] hP hD hS
  clear hP hD hS
  intro H locs hP hD hS
  unfold f_M_edge at h
  refine lv_aload_n hx hb dX8_edge_0 rfl (lv_at hl 0 rfl) ?_
  refine va_get (D := (dC, dI)) (ci := 8) (v := .int (iM 37)) (C := RX8) (T := TX8) (N := 78) hx hb hts ki8 hown hK hP 0 rfl rfl 37 (by decide) kf356 (fun _ h9 => h9) rfl dX8_edge_1 ?_
  refine lv_if_ne (tgt := 10) hx hb dX8_edge_4 (by decide) (fun cz => ?_) (fun cz => ?_)
  · have h := g_f h cz
    refine lv_iload_n hx hb dX8_edge_10 rfl (lv_at hl 1 rfl) ?_
    refine lv_i2l (v := (a1).toInt64) hx hb dX8_edge_11 rfl ?_
    refine lv_lconst (v := 0) hx hb dX8_edge_12 (by decide) ?_
    refine lv_aload_n hx hb dX8_edge_13 rfl (lv_at hl 0 rfl) ?_
    refine va_get (D := (dC, dI)) (ci := 8) (v := .int (iM 68)) (C := RX8) (T := TX8) (N := 78) hx hb hts ki8 hown hK hP 0 rfl rfl 68 (by decide) kf362 (fun _ h9 => h9) rfl dX8_edge_14 ?_
    refine lv_iconst (v := 1) hx hb dX8_edge_17 (by decide) ?_
    refine lv_isub hx hb dX8_edge_18 ?_
    refine lv_i2l (v := (((iM 68) - (1 : Int32))).toInt64) hx hb dX8_edge_19 rfl ?_
    obtain ⟨q20, e20, h⟩ := g_b h
    refine callSi (cc := cX8_edge) (ws' := zzM ad cy iM aM) (As := [.long (a1).toInt64, .long ((0 : Int64)), .long ((((iM 68) - (1 : Int32))).toInt64)]) (rest := []) ⟨hx, hb, hml, hown, hts⟩ (c_M_in l dC dI cy ad H.size (a1).toInt64 ((0 : Int64)) ((((iM 68) - (1 : Int32))).toInt64) q20 e20) (va_cwS 3 hts (goodS m_ml_X8_154 m_st_X8_in m_in_X8 m_cd_X8_in) rfl rfl rfl (by decide +kernel) ⟨Nat.le_of_ble_eq_true rfl, Nat.le_of_ble_eq_true rfl⟩) hN hK hP hD hS hA [] [none, none, none, none, none, none, none, none, none, none, none, none, none, none, none, none, none, none, none, none, none, none, none, none, none, none, none, none, none, none, none, none, none, none, none, none, none, none, none, none, none, none, none, none] rfl rfl rfl rfl rfl rfl rfl hl.1 rfl (Nat.le_of_ble_eq_true rfl) dX8_edge_20 ⟨Nat.zero_le _, Nat.zero_le _⟩ (fun H locs hP hD hS => ?_)
    refine lv_if_ne (tgt := 29) hx hb dX8_edge_23 (by decide) (fun cz => ?_) (fun cz => ?_)
    · have h := g_f h cz
      refine lv_iload_n hx hb dX8_edge_29 rfl (lv_at hl 2 rfl) ?_
      refine lv_if_ne (tgt := 42) hx hb dX8_edge_30 (by decide) (fun cz => ?_) (fun cz => ?_)
      · have h := g_f h cz
        refine lv_iload_n hx hb dX8_edge_42 rfl (lv_at hl 2 rfl) ?_
        refine lv_iconst (v := 1) hx hb dX8_edge_43 (by decide) ?_
        refine lv_icmp_ne (tgt := 56) hx hb dX8_edge_44 (by decide) (fun cz => ?_) (fun cz => ?_)
        · have h := g_f h cz
          refine lv_iload_n hx hb dX8_edge_56 rfl (lv_at hl 2 rfl) ?_
          refine lv_iconst (v := 2) hx hb dX8_edge_57 (by decide) ?_
          refine lv_icmp_ne (tgt := 70) hx hb dX8_edge_58 (by decide) (fun cz => ?_) (fun cz => ?_)
          · have h := g_f h cz
            refine lv_bipush (v := (-103)) hx hb dX8_edge_70 (by decide) ?_
            have h' := Option.some.inj h
            rw [← hQQ]
            exact W.iret (v := (-103 : Int32)) hx hb hr (fun t ht hW => ⟨⟨(-103 : Int32), (), rfl, by rw [← h'], by rw [← hWQ, ht]; exact hP, va_K.moved hW.alike hK⟩, hS.F ht⟩) hS.2.2 dX8_edge_72
          · have h := g_t h cz
            refine lv_aload_n hx hb dX8_edge_61 rfl (lv_at hl 0 rfl) ?_
            refine va_get (D := (dC, dI)) (ci := 8) (v := .ref (ad 39)) (C := RX8) (T := TX8) (N := 78) hx hb hts ki8 hown hK hP 0 rfl rfl 71 (by decide) kf132 (fun _ h9 => h9) rfl dX8_edge_62 ?_
            refine lv_iload_n hx hb dX8_edge_65 rfl (lv_at hl 1 rfl) ?_
            obtain ⟨g_139, h⟩ := g_n h
            refine va_iald (f := (aM 71)) hx hb hK hP 39 0 rfl rfl g_139 dX8_edge_66 ?_
            refine lv_goto (tgt := 72) hx hb dX8_edge_67 (by decide) ?_
            have h' := Option.some.inj h
            rw [← hQQ]
            exact W.iret (v := ((aM 71) a1.toNatClampNeg)) hx hb hr (fun t ht hW => ⟨⟨((aM 71) a1.toNatClampNeg), (), rfl, by rw [← h'], by rw [← hWQ, ht]; exact hP, va_K.moved hW.alike hK⟩, hS.F ht⟩) hS.2.2 dX8_edge_72
        · have h := g_t h cz
          refine lv_aload_n hx hb dX8_edge_47 rfl (lv_at hl 0 rfl) ?_
          refine va_get (D := (dC, dI)) (ci := 8) (v := .ref (ad 38)) (C := RX8) (T := TX8) (N := 78) hx hb hts ki8 hown hK hP 0 rfl rfl 70 (by decide) kf129 (fun _ h9 => h9) rfl dX8_edge_48 ?_
          refine lv_iload_n hx hb dX8_edge_51 rfl (lv_at hl 1 rfl) ?_
          obtain ⟨g_139, h⟩ := g_n h
          refine va_iald (f := (aM 70)) hx hb hK hP 38 0 rfl rfl g_139 dX8_edge_52 ?_
          refine lv_goto (tgt := 72) hx hb dX8_edge_53 (by decide) ?_
          have h' := Option.some.inj h
          rw [← hQQ]
          exact W.iret (v := ((aM 70) a1.toNatClampNeg)) hx hb hr (fun t ht hW => ⟨⟨((aM 70) a1.toNatClampNeg), (), rfl, by rw [← h'], by rw [← hWQ, ht]; exact hP, va_K.moved hW.alike hK⟩, hS.F ht⟩) hS.2.2 dX8_edge_72
      · have h := g_t h cz
        refine lv_aload_n hx hb dX8_edge_33 rfl (lv_at hl 0 rfl) ?_
        refine va_get (D := (dC, dI)) (ci := 8) (v := .ref (ad 37)) (C := RX8) (T := TX8) (N := 78) hx hb hts ki8 hown hK hP 0 rfl rfl 69 (by decide) kf126 (fun _ h9 => h9) rfl dX8_edge_34 ?_
        refine lv_iload_n hx hb dX8_edge_37 rfl (lv_at hl 1 rfl) ?_
        obtain ⟨g_139, h⟩ := g_n h
        refine va_iald (f := (aM 69)) hx hb hK hP 37 0 rfl rfl g_139 dX8_edge_38 ?_
        refine lv_goto (tgt := 72) hx hb dX8_edge_39 (by decide) ?_
        have h' := Option.some.inj h
        rw [← hQQ]
        exact W.iret (v := ((aM 69) a1.toNatClampNeg)) hx hb hr (fun t ht hW => ⟨⟨((aM 69) a1.toNatClampNeg), (), rfl, by rw [← h'], by rw [← hWQ, ht]; exact hP, va_K.moved hW.alike hK⟩, hS.F ht⟩) hS.2.2 dX8_edge_72
    · have h := g_t h cz
      refine lv_bipush (v := (-102)) hx hb dX8_edge_26 (by decide) ?_
      have h' := Option.some.inj h
      rw [← hQQ]
      exact W.iret (v := (-102 : Int32)) hx hb hr (fun t ht hW => ⟨⟨(-102 : Int32), (), rfl, by rw [← h'], by rw [← hWQ, ht]; exact hP, va_K.moved hW.alike hK⟩, hS.F ht⟩) hS.2.2 dX8_edge_28
  · have h := g_t h cz
    refine lv_bipush (v := (-101)) hx hb dX8_edge_7 (by decide) ?_
    have h' := Option.some.inj h
    rw [← hQQ]
    exact W.iret (v := (-101 : Int32)) hx hb hr (fun t ht hW => ⟨⟨(-101 : Int32), (), rfl, by rw [← h'], by rw [← hWQ, ht]; exact hP, va_K.moved hW.alike hK⟩, hS.F ht⟩) hS.2.2 dX8_edge_9
set_option maxHeartbeats 8000000 in
set_option maxRecDepth 100000 in
theorem c_M_bones (l : Launch) (dC : Nat → ClassId) (dI : Nat → Nat → Nat) (cy : Nat → ClassId) (ad : Nat → Nat) (sz : Nat) (N : Nat) (a1 : Int32) (iM : Nat → Int32) (aM : Nat → Nat → Int32) (q : Int32 × Int32 × Int32 × (Nat → Int32) × (Nat → Int32) × (Nat → Int32)) (h : f_M_bones N a1 (iM 20) (iM 22) (iM 28) (iM 36) (iM 37) (iM 64) (iM 65) (aM 15) (aM 16) (aM 17) (aM 19) (aM 21) (aM 29) (aM 57) (aM 58) (aM 59) (aM 60) (aM 61) (aM 62) (aM 63) = some q) : Met l yX8_bones wsX8_bones ({ frames := 4, cells := 0, slots := 0, locals := 100 } : Room) (cP (dC, dI) cy [.ref (ad 0), .int a1] (zzM ad cy iM aM) sz) (cQi (dC, dI) cy q.1 (zzM ad cy (us iM [(64, q.2.1), (65, q.2.2.1)]) (us aM [(61, q.2.2.2.1), (62, q.2.2.2.2.1), (63, q.2.2.2.2.2)])) (va_A (zzM ad cy iM aM) sz)) 0 0 (va_A (zzM ad cy iM aM) sz) := by
  refine Met.ofW (cc := cX8_bones) (maxL := 4) (ret := (some .int)) (by decide) rfl ?_
  intro p e s m args below meth c s₁ B hml hv
  obtain ⟨hav, hsz, hP, hK, hD0, hN⟩ := hv
  have hx := B.exec
  have hb := B.bytes
  have hr := B.returns
  have hts := atoms_spec (ws := wsX8_bones) B.pre
  have hown : s.vm.findClass RX8 = some m.cls := findClass_of_methodNamed B.named
  have hlocks := B.notSynchronized
  subst hsz
  have hD := hD0.self (sz := s.heap.size)
  generalize hAe : va_A (zzM ad cy iM aM) s.heap.size = A at hD ⊢
  have hA : ∀ q : Nat, s.heap.size ≤ q → A q := fun q h => by rw [← hAe]; exact Or.inr h
  have hS : va_S A s.heap s.heap [] := va_S.rf
  generalize hWQ : (zzM ad cy (us iM [(64, q.2.1), (65, q.2.2.1)]) (us aM [(61, q.2.2.2.1), (62, q.2.2.2.2.1), (63, q.2.2.2.2.2)])) = WQ
  generalize hQQ : MQ below (cQi (dC, dI) cy q.1 WQ A) args s 0 0 A = QQ
  have hl := lv_entry ([.ref (ad 0), .int a1] : List Value) (n := 4) (Nat.le_of_ble_eq_true rfl)
  have hfr := lg_entry_eq m ([.ref (ad 0), .int a1] : List Value) 4
  rw [← hav] at hfr
  rw [hfr]
  clear hfr hav
  generalize (lg_sl ([.ref (ad 0), .int a1] : List Value) ++ List.replicate (4 - (lg_sl ([.ref (ad 0), .int a1] : List Value)).length) Slot.unset).toArray = ls at hl ⊢
  have hl : lv_has ls 4 [(0, .ref (ad 0)), (1, .int a1)] := hl
  have kf341 := hts _ (List.mem_cons_of_mem _ m_fl_X8_341)
  have ki8 := (fun w h => List.mem_cons_of_mem _ (i_X8 w h) : ∀ w ∈ u_ws RX8 TX8 78, w ∈ wsX8_bones)
  have kf356 := hts _ (List.mem_cons_of_mem _ m_fl_X8_356)
  refine (?_ : ∀ (H : Heap) (locs : List Loc), va_P (dC, dI) vwCl (zzM ad cy iM aM) H → va_D A (zzM ad cy iM aM) → va_S A s.heap H locs → W p l e ({ frames := 4, cells := 0, slots := 0, locals := 100 } : Room) s m args below meth c H locs 0 0 QQ (F0 m 0 ls [])) s.heap [] hP hD hS
  clear hP hD hS
  have B35 : ∀ (n : Nat) (v1 : Int32) (v2 : Int32) (v3 : Int32) (x_iM64 : Int32) (x_iM65 : Int32) (x_aM61 : Nat → Int32) (x_aM62 : Nat → Int32) (x_aM63 : Nat → Int32) (H : Heap) (locs : List Loc) (ls : Array Slot), f_M_bones_35 N (iM 20) (iM 22) (iM 28) (iM 36) (iM 37) (iM 64) (iM 65) (aM 15) (aM 16) (aM 17) (aM 19) (aM 21) (aM 29) (aM 57) (aM 58) (aM 59) (aM 60) (aM 61) (aM 62) (aM 63) v1 n v2 v3 x_iM64 x_iM65 x_aM61 x_aM62 x_aM63 = some q → va_P (dC, dI) vwCl (zzM ad cy (us iM [(64, x_iM64), (65, x_iM65)]) (us aM [(61, x_aM61), (62, x_aM62), (63, x_aM63)])) H → va_D A (zzM ad cy (us iM [(64, x_iM64), (65, x_iM65)]) (us aM [(61, x_aM61), (62, x_aM62), (63, x_aM63)])) → va_S A s.heap H locs → lv_has ls 4 [(0, .ref (ad 0)), (1, .int v1), (2, .int v2), (3, .int v3)] → W p l e ({ frames := 4, cells := 0, slots := 0, locals := 100 } : Room) s m args below meth c H locs 0 0 QQ (F0 m 35 ls []) := by
    intro n
    induction n with
    | zero =>
      intro v1 v2 v3 x_iM64 x_iM65 x_aM61 x_aM62 x_aM63 H locs ls h hP hD hS hl
      rw [f_M_bones_35] at h
      cases h
    | succ n ih =>
      intro v1 v2 v3 x_iM64 x_iM65 x_aM61 x_aM62 x_aM63 H locs ls h hP hD hS hl
      rw [f_M_bones_35] at h
      refine lv_iload_n hx hb dX8_bones_35 rfl (lv_at hl 3 rfl) ?_
      refine lv_aload_n hx hb dX8_bones_36 rfl (lv_at hl 0 rfl) ?_
      refine va_get (D := (dC, dI)) (ci := 8) (v := .int (iM 20)) (C := RX8) (T := TX8) (N := 78) hx hb hts ki8 hown hK hP 0 rfl rfl 20 (by decide) kf341 (fun _ h9 => h9) rfl dX8_bones_37 ?_
      refine lv_icmp_ge (tgt := 73) hx hb dX8_bones_40 (by decide) (fun cz => ?_) (fun cz => ?_)
      · have h := g_t h cz
        refine lv_aload_n hx hb dX8_bones_73 rfl (lv_at hl 0 rfl) ?_
        refine lv_iconst (v := 0) hx hb dX8_bones_74 (by decide) ?_
        refine lv_iconst (v := 0) hx hb dX8_bones_75 (by decide) ?_
        obtain ⟨q76, e76, h⟩ := g_b h
        refine callVvs (cc := cX8_bones) (w1 := zzM ad cy (us iM [(64, q76.1), (65, q76.2.1)]) (us aM [(61, q76.2.2.1), (62, q76.2.2.2.1), (63, q76.2.2.2.2)])) (As := [.int ((0 : Int32)), .int ((0 : Int32))]) (rest := []) ⟨hx, hb, hml, hown, hts⟩ (c_M_sift l dC dI cy ad H.size N ((0 : Int32)) ((0 : Int32)) ((us iM [(64, x_iM64), (65, x_iM65)])) ((us aM [(61, x_aM61), (62, x_aM62), (63, x_aM63)])) q76 e76) (cwV 2 hts (goodV m_ml_X8_398 m_im_X8_sift m_se_X8_sift m_in_X8 m_cd_X8_sift) rfl rfl rfl (by decide +kernel) ⟨Nat.le_of_ble_eq_true rfl, Nat.le_of_ble_eq_true rfl⟩) hN hK hP hD hS hA rfl 0 rfl rfl rfl hl.1 rfl (Nat.le_of_ble_eq_true rfl) dX8_bones_76 ⟨Nat.zero_le _, Nat.zero_le _⟩ (fun H locs hP hD hS => ?_)
        refine lv_iconst (v := 1) hx hb dX8_bones_79 (by decide) ?_
        refine lv_aload_n hx hb dX8_bones_80 rfl (lv_at hl 0 rfl) ?_
        refine va_get (D := (dC, dI)) (ci := 8) (v := .int (iM 20)) (C := RX8) (T := TX8) (N := 78) hx hb hts ki8 hown hK hP 0 rfl rfl 20 (by decide) kf341 (fun _ h9 => h9) rfl dX8_bones_81 ?_
        refine lv_ishl hx hb dX8_bones_84 ?_
        refine lv_iconst (v := 1) hx hb dX8_bones_85 (by decide) ?_
        refine lv_isub hx hb dX8_bones_86 ?_
        refine lv_iload_n hx hb dX8_bones_87 rfl (lv_at hl 2 rfl) ?_
        refine lv_iconst (v := (-1)) hx hb dX8_bones_88 (by decide) ?_
        refine lv_ixor hx hb dX8_bones_89 ?_
        refine lv_iand hx hb dX8_bones_90 ?_
        have h' := Option.some.inj h
        rw [← hQQ]
        exact W.iret (v := ((((1 : Int32) <<< ((iM 20) &&& 31)) - (1 : Int32)) &&& (v2 ^^^ (-1 : Int32)))) hx hb hr (fun t ht hW => ⟨⟨((((1 : Int32) <<< ((iM 20) &&& 31)) - (1 : Int32)) &&& (v2 ^^^ (-1 : Int32))), (), rfl, by rw [← h'], by rw [← hWQ, ← h', ht]; exact hP, va_K.moved hW.alike hK⟩, hS.F ht⟩) hS.2.2 dX8_bones_91
      · have h := g_f h cz
        refine lv_aload_n hx hb dX8_bones_43 rfl (lv_at hl 0 rfl) ?_
        refine lv_iload_n hx hb dX8_bones_44 rfl (lv_at hl 2 rfl) ?_
        refine lv_iconst (v := 1) hx hb dX8_bones_45 (by decide) ?_
        refine lv_iload_n hx hb dX8_bones_46 rfl (lv_at hl 3 rfl) ?_
        refine lv_ishl hx hb dX8_bones_47 ?_
        refine lv_ior hx hb dX8_bones_48 ?_
        refine lv_iconst (v := 0) hx hb dX8_bones_49 (by decide) ?_
        obtain ⟨q50, e50, h⟩ := g_b h
        refine callVvs (cc := cX8_bones) (w1 := zzM ad cy (us iM [(64, q50.1), (65, q50.2.1)]) (us aM [(61, q50.2.2.1), (62, q50.2.2.2.1), (63, q50.2.2.2.2)])) (As := [.int ((v2 ||| ((1 : Int32) <<< (v3 &&& 31)))), .int ((0 : Int32))]) (rest := []) ⟨hx, hb, hml, hown, hts⟩ (c_M_sift l dC dI cy ad H.size N ((v2 ||| ((1 : Int32) <<< (v3 &&& 31)))) ((0 : Int32)) ((us iM [(64, x_iM64), (65, x_iM65)])) ((us aM [(61, x_aM61), (62, x_aM62), (63, x_aM63)])) q50 e50) (cwV 2 hts (goodV m_ml_X8_398 m_im_X8_sift m_se_X8_sift m_in_X8 m_cd_X8_sift) rfl rfl rfl (by decide +kernel) ⟨Nat.le_of_ble_eq_true rfl, Nat.le_of_ble_eq_true rfl⟩) hN hK hP hD hS hA rfl 0 rfl rfl rfl hl.1 rfl (Nat.le_of_ble_eq_true rfl) dX8_bones_50 ⟨Nat.zero_le _, Nat.zero_le _⟩ (fun H locs hP hD hS => ?_)
        refine lv_aload_n hx hb dX8_bones_53 rfl (lv_at hl 0 rfl) ?_
        refine lv_iload_n hx hb dX8_bones_54 rfl (lv_at hl 1 rfl) ?_
        obtain ⟨q55, e55, h⟩ := g_b h
        refine callVis (cc := cX8_bones) (w1 := zzM ad cy (us iM [(64, q50.1), (65, q50.2.1)]) (us aM [(61, q50.2.2.1), (62, q50.2.2.2.1), (63, q50.2.2.2.2)])) (As := [.int v1]) (rest := []) ⟨hx, hb, hml, hown, hts⟩ (c_M_leastOf l dC dI cy ad H.size N v1 ((us iM [(64, q50.1), (65, q50.2.1)])) ((us aM [(61, q50.2.2.1), (62, q50.2.2.2.1), (63, q50.2.2.2.2)])) q55 e55) (cwV 1 hts (goodV m_ml_X8_417 m_im_X8_leastOf m_se_X8_leastOf m_in_X8 m_cd_X8_leastOf) rfl rfl rfl (by decide +kernel) ⟨Nat.le_of_ble_eq_true rfl, Nat.le_of_ble_eq_true rfl⟩) hN hK hP hD hS hA rfl 0 rfl rfl rfl hl.1 rfl (Nat.le_of_ble_eq_true rfl) dX8_bones_55 ⟨Nat.zero_le _, Nat.zero_le _⟩ (fun H locs hP hD hS => ?_)
        refine lv_if_ge (tgt := 67) hx hb dX8_bones_58 (by decide) (fun cz => ?_) (fun cz => ?_)
        · have h := g_t h cz
          refine lv_iinc (v := (v3 + (1 : Int32))) (lv' := [(3, .int ((v3 + (1 : Int32)))), (0, .ref (ad 0)), (1, .int v1), (2, .int v2)]) hx hb dX8_bones_67 hl (k := 3) rfl rfl (by decide) rfl (fun ls hl => ?_)
          refine lv_goto (tgt := 35) hx hb dX8_bones_70 (by decide) ?_
          exact ih v1 v2 ((v3 + (1 : Int32))) q50.1 q50.2.1 q50.2.2.1 q50.2.2.2.1 q50.2.2.2.2 H locs ls h hP hD hS (lv_sub hl [1, 2, 3, 0] rfl)
        · have h := g_f h cz
          refine lv_iload_n hx hb dX8_bones_61 rfl (lv_at hl 2 rfl) ?_
          refine lv_iconst (v := 1) hx hb dX8_bones_62 (by decide) ?_
          refine lv_iload_n hx hb dX8_bones_63 rfl (lv_at hl 3 rfl) ?_
          refine lv_ishl hx hb dX8_bones_64 ?_
          refine lv_ior hx hb dX8_bones_65 ?_
          refine lv_istore_n (lv' := [(2, .int ((v2 ||| ((1 : Int32) <<< (v3 &&& 31))))), (0, .ref (ad 0)), (1, .int v1), (3, .int v3)]) hx hb dX8_bones_66 rfl hl (by decide) rfl (fun ls hl => ?_)
          refine lv_iinc (v := (v3 + (1 : Int32))) (lv' := [(3, .int ((v3 + (1 : Int32)))), (2, .int ((v2 ||| ((1 : Int32) <<< (v3 &&& 31))))), (0, .ref (ad 0)), (1, .int v1)]) hx hb dX8_bones_67 hl (k := 3) rfl rfl (by decide) rfl (fun ls hl => ?_)
          refine lv_goto (tgt := 35) hx hb dX8_bones_70 (by decide) ?_
          exact ih v1 ((v2 ||| ((1 : Int32) <<< (v3 &&& 31)))) ((v3 + (1 : Int32))) q50.1 q50.2.1 q50.2.2.1 q50.2.2.2.1 q50.2.2.2.2 H locs ls h hP hD hS (lv_sub hl [2, 3, 1, 0] rfl)
  intro H locs hP hD hS
  unfold f_M_bones at h
  refine lv_aload_n hx hb dX8_bones_0 rfl (lv_at hl 0 rfl) ?_
  refine va_get (D := (dC, dI)) (ci := 8) (v := .int (iM 37)) (C := RX8) (T := TX8) (N := 78) hx hb hts ki8 hown hK hP 0 rfl rfl 37 (by decide) kf356 (fun _ h9 => h9) rfl dX8_bones_1 ?_
  refine lv_if_ne (tgt := 10) hx hb dX8_bones_4 (by decide) (fun cz => ?_) (fun cz => ?_)
  · have h := g_f h cz
    refine lv_aload_n hx hb dX8_bones_10 rfl (lv_at hl 0 rfl) ?_
    refine lv_iload_n hx hb dX8_bones_11 rfl (lv_at hl 1 rfl) ?_
    obtain ⟨q12, e12, h⟩ := g_b h
    refine callVis (cc := cX8_bones) (w1 := zzM ad cy iM aM) (As := [.int a1]) (rest := []) ⟨hx, hb, hml, hown, hts⟩ (c_M_noQuestion l dC dI cy ad H.size a1 iM aM q12 e12) (cwV 1 hts (goodV m_ml_X8_411 m_im_X8_noQuestion m_se_X8_noQuestion m_in_X8 m_cd_X8_noQuestion) rfl rfl rfl (by decide +kernel) ⟨Nat.le_of_ble_eq_true rfl, Nat.le_of_ble_eq_true rfl⟩) hN hK hP hD hS hA rfl 0 rfl rfl rfl hl.1 rfl (Nat.le_of_ble_eq_true rfl) dX8_bones_12 ⟨Nat.zero_le _, Nat.zero_le _⟩ (fun H locs hP hD hS => ?_)
    refine lv_if_eq (tgt := 21) hx hb dX8_bones_15 (by decide) (fun cz => ?_) (fun cz => ?_)
    · have h := g_t h cz
      refine lv_aload_n hx hb dX8_bones_21 rfl (lv_at hl 0 rfl) ?_
      refine lv_iload_n hx hb dX8_bones_22 rfl (lv_at hl 1 rfl) ?_
      obtain ⟨q23, e23, h⟩ := g_b h
      refine callVis (cc := cX8_bones) (w1 := zzM ad cy iM aM) (As := [.int a1]) (rest := []) ⟨hx, hb, hml, hown, hts⟩ (c_M_leastOf l dC dI cy ad H.size N a1 iM aM q23 e23) (cwV 1 hts (goodV m_ml_X8_417 m_im_X8_leastOf m_se_X8_leastOf m_in_X8 m_cd_X8_leastOf) rfl rfl rfl (by decide +kernel) ⟨Nat.le_of_ble_eq_true rfl, Nat.le_of_ble_eq_true rfl⟩) hN hK hP hD hS hA rfl 0 rfl rfl rfl hl.1 rfl (Nat.le_of_ble_eq_true rfl) dX8_bones_23 ⟨Nat.zero_le _, Nat.zero_le _⟩ (fun H locs hP hD hS => ?_)
      refine lv_if_lt (tgt := 31) hx hb dX8_bones_26 (by decide) (fun cz => ?_) (fun cz => ?_)
      · have h := g_t h cz
        refine lv_iconst (v := 0) hx hb dX8_bones_31 (by decide) ?_
        refine lv_istore_n (lv' := [(2, .int ((0 : Int32))), (0, .ref (ad 0)), (1, .int a1)]) hx hb dX8_bones_32 rfl hl (by decide) rfl (fun ls hl => ?_)
        refine lv_iconst (v := 0) hx hb dX8_bones_33 (by decide) ?_
        refine lv_istore_n (lv' := [(3, .int ((0 : Int32))), (2, .int ((0 : Int32))), (0, .ref (ad 0)), (1, .int a1)]) hx hb dX8_bones_34 rfl hl (by decide) rfl (fun ls hl => ?_)
        exact B35 N a1 ((0 : Int32)) ((0 : Int32)) (iM 64) (iM 65) (aM 61) (aM 62) (aM 63) H locs ls h hP hD hS (lv_sub hl [2, 3, 1, 0] rfl)
      · have h := g_f h cz
        refine lv_iconst (v := (-1)) hx hb dX8_bones_29 (by decide) ?_
        have h' := Option.some.inj h
        rw [← hQQ]
        exact W.iret (v := (-1 : Int32)) hx hb hr (fun t ht hW => ⟨⟨(-1 : Int32), (), rfl, by rw [← h'], by rw [← hWQ, ← h', ht]; exact hP, va_K.moved hW.alike hK⟩, hS.F ht⟩) hS.2.2 dX8_bones_30
    · have h := g_f h cz
      refine lv_bipush (v := (-102)) hx hb dX8_bones_18 (by decide) ?_
      have h' := Option.some.inj h
      rw [← hQQ]
      exact W.iret (v := (-102 : Int32)) hx hb hr (fun t ht hW => ⟨⟨(-102 : Int32), (), rfl, by rw [← h'], by rw [← hWQ, ← h', ht]; exact hP, va_K.moved hW.alike hK⟩, hS.F ht⟩) hS.2.2 dX8_bones_20
  · have h := g_t h cz
    refine lv_bipush (v := (-101)) hx hb dX8_bones_7 (by decide) ?_
    have h' := Option.some.inj h
    rw [← hQQ]
    exact W.iret (v := (-101 : Int32)) hx hb hr (fun t ht hW => ⟨⟨(-101 : Int32), (), rfl, by rw [← h'], by rw [← hWQ, ← h', ht]; exact hP, va_K.moved hW.alike hK⟩, hS.F ht⟩) hS.2.2 dX8_bones_9
set_option maxHeartbeats 8000000 in
set_option maxRecDepth 100000 in
theorem c_M_same (l : Launch) (dC : Nat → ClassId) (dI : Nat → Nat → Nat) (cy : Nat → ClassId) (ad : Nat → Nat) (sz : Nat) (N : Nat) (a1 : Int32) (a2 : Int32) (iM : Nat → Int32) (aM : Nat → Nat → Int32) (q : Int32) (h : f_M_same N a1 a2 (iM 22) (iM 36) (iM 37) (aM 21) (aM 57) (aM 62) = some q) : Met l yX8_same wsX8_same ({ frames := 2, cells := 0, slots := 0, locals := 46 } : Room) (cP (dC, dI) cy [.ref (ad 0), .int a1, .int a2] (zzM ad cy iM aM) sz) (cQi (dC, dI) cy q (zzM ad cy iM aM) (va_A (zzM ad cy iM aM) sz)) 0 0 (va_A (zzM ad cy iM aM) sz) := by
  refine Met.ofW (cc := cX8_same) (maxL := 5) (ret := (some .int)) (by decide) rfl ?_
  intro p e s m args below meth c s₁ B hml hv
  obtain ⟨hav, hsz, hP, hK, hD0, hN⟩ := hv
  have hx := B.exec
  have hb := B.bytes
  have hr := B.returns
  have hts := atoms_spec (ws := wsX8_same) B.pre
  have hown : s.vm.findClass RX8 = some m.cls := findClass_of_methodNamed B.named
  have hlocks := B.notSynchronized
  subst hsz
  have hD := hD0.self (sz := s.heap.size)
  generalize hAe : va_A (zzM ad cy iM aM) s.heap.size = A at hD ⊢
  have hA : ∀ q : Nat, s.heap.size ≤ q → A q := fun q h => by rw [← hAe]; exact Or.inr h
  have hS : va_S A s.heap s.heap [] := va_S.rf
  generalize hWQ : (zzM ad cy iM aM) = WQ
  generalize hQQ : MQ below (cQi (dC, dI) cy q WQ A) args s 0 0 A = QQ
  have hl := lv_entry ([.ref (ad 0), .int a1, .int a2] : List Value) (n := 5) (Nat.le_of_ble_eq_true rfl)
  have hfr := lg_entry_eq m ([.ref (ad 0), .int a1, .int a2] : List Value) 5
  rw [← hav] at hfr
  rw [hfr]
  clear hfr hav
  generalize (lg_sl ([.ref (ad 0), .int a1, .int a2] : List Value) ++ List.replicate (5 - (lg_sl ([.ref (ad 0), .int a1, .int a2] : List Value)).length) Slot.unset).toArray = ls at hl ⊢
  have hl : lv_has ls 5 [(0, .ref (ad 0)), (1, .int a1), (2, .int a2)] := hl
  have kf117 := hts _ (List.mem_cons_of_mem _ m_fl_X8_117)
  have ki8 := (fun w h => List.mem_cons_of_mem _ (i_X8 w h) : ∀ w ∈ u_ws RX8 TX8 78, w ∈ wsX8_same)
  have kf356 := hts _ (List.mem_cons_of_mem _ m_fl_X8_356)
  refine (?_ : ∀ (H : Heap) (locs : List Loc), va_P (dC, dI) vwCl (zzM ad cy iM aM) H → va_D A (zzM ad cy iM aM) → va_S A s.heap H locs → W p l e ({ frames := 2, cells := 0, slots := 0, locals := 46 } : Room) s m args below meth c H locs 0 0 QQ (F0 m 0 ls [])) s.heap [] hP hD hS
  clear hP hD hS
  have B34 : ∀ (n : Nat) (v1 : Int32) (v2 : Int32) (v3 : Int32) (v4 : Int32) (H : Heap) (locs : List Loc) (ls : Array Slot), f_M_same_34 N (iM 22) (iM 36) (iM 37) (aM 21) (aM 57) (aM 62) v1 v2 n v3 v4 = some q → va_P (dC, dI) vwCl (zzM ad cy iM aM) H → va_D A (zzM ad cy iM aM) → va_S A s.heap H locs → lv_has ls 5 [(0, .ref (ad 0)), (1, .int v1), (2, .int v2), (3, .int v3), (4, .int v4)] → W p l e ({ frames := 2, cells := 0, slots := 0, locals := 46 } : Room) s m args below meth c H locs 0 0 QQ (F0 m 34 ls []) := by
    intro n
    induction n with
    | zero =>
      intro v1 v2 v3 v4 H locs ls h hP hD hS hl
      rw [f_M_same_34] at h
      cases h
    | succ n ih =>
      intro v1 v2 v3 v4 H locs ls h hP hD hS hl
      rw [f_M_same_34] at h
      refine lv_iload hx hb dX8_same_34 (lv_at hl 4 rfl) ?_
      refine lv_aload_n hx hb dX8_same_36 rfl (lv_at hl 0 rfl) ?_
      obtain ⟨q37, e37, h⟩ := g_b h
      refine callVis (cc := cX8_same) (w1 := zzM ad cy iM aM) (As := []) (rest := [.int v4]) ⟨hx, hb, hml, hown, hts⟩ (c_M_types l dC dI cy ad H.size iM aM q37 e37) (cwV 0 hts (goodV m_ml_X8_368 m_im_X8_types m_se_X8_types m_in_X8 m_cd_X8_types) rfl rfl rfl (by decide +kernel) ⟨Nat.le_of_ble_eq_true rfl, Nat.le_of_ble_eq_true rfl⟩) hN hK hP hD hS hA rfl 0 rfl rfl rfl hl.1 rfl (Nat.le_of_ble_eq_true rfl) dX8_same_37 ⟨Nat.zero_le _, Nat.zero_le _⟩ (fun H locs hP hD hS => ?_)
      refine lv_icmp_ge (tgt := 86) hx hb dX8_same_40 (by decide) (fun cz => ?_) (fun cz => ?_)
      · have h := g_t h cz
        refine lv_iload_n hx hb dX8_same_86 rfl (lv_at hl 3 rfl) ?_
        refine lv_if_eq (tgt := 94) hx hb dX8_same_87 (by decide) (fun cz => ?_) (fun cz => ?_)
        · have h := g_t h cz
          refine lv_iconst (v := 0) hx hb dX8_same_94 (by decide) ?_
          have h' := Option.some.inj h
          rw [← hQQ]
          exact W.iret (v := (0 : Int32)) hx hb hr (fun t ht hW => ⟨⟨(0 : Int32), (), rfl, by rw [← h'], by rw [← hWQ, ht]; exact hP, va_K.moved hW.alike hK⟩, hS.F ht⟩) hS.2.2 dX8_same_95
        · have h := g_f h cz
          refine lv_iconst (v := 1) hx hb dX8_same_90 (by decide) ?_
          refine lv_goto (tgt := 95) hx hb dX8_same_91 (by decide) ?_
          have h' := Option.some.inj h
          rw [← hQQ]
          exact W.iret (v := (1 : Int32)) hx hb hr (fun t ht hW => ⟨⟨(1 : Int32), (), rfl, by rw [← h'], by rw [← hWQ, ht]; exact hP, va_K.moved hW.alike hK⟩, hS.F ht⟩) hS.2.2 dX8_same_95
      · have h := g_f h cz
        refine lv_iload_n hx hb dX8_same_43 rfl (lv_at hl 3 rfl) ?_
        refine lv_if_eq (tgt := 78) hx hb dX8_same_44 (by decide) (fun cz => ?_) (fun cz => ?_)
        · have h := g_t h cz
          refine lv_iconst (v := 0) hx hb dX8_same_78 (by decide) ?_
          refine lv_istore_n (lv' := [(3, .int ((0 : Int32))), (0, .ref (ad 0)), (1, .int v1), (2, .int v2), (4, .int v4)]) hx hb dX8_same_79 rfl hl (by decide) rfl (fun ls hl => ?_)
          refine lv_iinc (v := (v4 + (1 : Int32))) (lv' := [(4, .int ((v4 + (1 : Int32)))), (3, .int ((0 : Int32))), (0, .ref (ad 0)), (1, .int v1), (2, .int v2)]) hx hb dX8_same_80 hl (k := 4) rfl rfl (by decide) rfl (fun ls hl => ?_)
          refine lv_goto (tgt := 34) hx hb dX8_same_83 (by decide) ?_
          exact ih v1 v2 ((0 : Int32)) ((v4 + (1 : Int32))) H locs ls h hP hD hS (lv_sub hl [2, 3, 4, 1, 0] rfl)
        · have h := g_f h cz
          refine lv_aload_n hx hb dX8_same_47 rfl (lv_at hl 0 rfl) ?_
          refine va_get (D := (dC, dI)) (ci := 8) (v := .ref (ad 34)) (C := RX8) (T := TX8) (N := 78) hx hb hts ki8 hown hK hP 0 rfl rfl 62 (by decide) kf117 (fun _ h9 => h9) rfl dX8_same_48 ?_
          refine lv_iload hx hb dX8_same_51 (lv_at hl 4 rfl) ?_
          obtain ⟨g_28, h⟩ := g_n h
          refine va_zald (f := (aM 62)) hx hb hK hP 34 4 rfl rfl g_28 dX8_same_53 ?_
          refine lv_if_eq (tgt := 74) hx hb dX8_same_54 (by decide) (fun cz => ?_) (fun cz => ?_)
          · have h := g_t h cz
            refine lv_iconst (v := 1) hx hb dX8_same_74 (by decide) ?_
            refine lv_goto (tgt := 79) hx hb dX8_same_75 (by decide) ?_
            refine lv_istore_n (lv' := [(3, .int ((1 : Int32))), (0, .ref (ad 0)), (1, .int v1), (2, .int v2), (4, .int v4)]) hx hb dX8_same_79 rfl hl (by decide) rfl (fun ls hl => ?_)
            refine lv_iinc (v := (v4 + (1 : Int32))) (lv' := [(4, .int ((v4 + (1 : Int32)))), (3, .int ((1 : Int32))), (0, .ref (ad 0)), (1, .int v1), (2, .int v2)]) hx hb dX8_same_80 hl (k := 4) rfl rfl (by decide) rfl (fun ls hl => ?_)
            refine lv_goto (tgt := 34) hx hb dX8_same_83 (by decide) ?_
            exact ih v1 v2 ((1 : Int32)) ((v4 + (1 : Int32))) H locs ls h hP hD hS (lv_sub hl [2, 3, 4, 1, 0] rfl)
          · have h := g_f h cz
            refine lv_aload_n hx hb dX8_same_57 rfl (lv_at hl 0 rfl) ?_
            refine lv_iload_n hx hb dX8_same_58 rfl (lv_at hl 1 rfl) ?_
            refine lv_iload hx hb dX8_same_59 (lv_at hl 4 rfl) ?_
            obtain ⟨q61, e61, h⟩ := g_b h
            refine callVis (cc := cX8_same) (w1 := zzM ad cy iM aM) (As := [.int v1, .int v4]) (rest := []) ⟨hx, hb, hml, hown, hts⟩ (c_M_isAt l dC dI cy ad H.size v1 v4 iM aM q61 e61) (cwV 2 hts (goodV m_ml_X8_414 m_im_X8_isAt m_se_X8_isAt m_in_X8 m_cd_X8_isAt) rfl rfl rfl (by decide +kernel) ⟨Nat.le_of_ble_eq_true rfl, Nat.le_of_ble_eq_true rfl⟩) hN hK hP hD hS hA rfl 0 rfl rfl rfl hl.1 rfl (Nat.le_of_ble_eq_true rfl) dX8_same_61 ⟨Nat.zero_le _, Nat.zero_le _⟩ (fun H locs hP hD hS => ?_)
            refine lv_aload_n hx hb dX8_same_64 rfl (lv_at hl 0 rfl) ?_
            refine lv_iload_n hx hb dX8_same_65 rfl (lv_at hl 2 rfl) ?_
            refine lv_iload hx hb dX8_same_66 (lv_at hl 4 rfl) ?_
            obtain ⟨q68, e68, h⟩ := g_b h
            refine callVis (cc := cX8_same) (w1 := zzM ad cy iM aM) (As := [.int v2, .int v4]) (rest := [.int q61]) ⟨hx, hb, hml, hown, hts⟩ (c_M_isAt l dC dI cy ad H.size v2 v4 iM aM q68 e68) (cwV 2 hts (goodV m_ml_X8_414 m_im_X8_isAt m_se_X8_isAt m_in_X8 m_cd_X8_isAt) rfl rfl rfl (by decide +kernel) ⟨Nat.le_of_ble_eq_true rfl, Nat.le_of_ble_eq_true rfl⟩) hN hK hP hD hS hA rfl 0 rfl rfl rfl hl.1 rfl (Nat.le_of_ble_eq_true rfl) dX8_same_68 ⟨Nat.zero_le _, Nat.zero_le _⟩ (fun H locs hP hD hS => ?_)
            refine lv_icmp_ne (tgt := 78) hx hb dX8_same_71 (by decide) (fun cz => ?_) (fun cz => ?_)
            · have h := g_f h cz
              refine lv_iconst (v := 0) hx hb dX8_same_78 (by decide) ?_
              refine lv_istore_n (lv' := [(3, .int ((0 : Int32))), (0, .ref (ad 0)), (1, .int v1), (2, .int v2), (4, .int v4)]) hx hb dX8_same_79 rfl hl (by decide) rfl (fun ls hl => ?_)
              refine lv_iinc (v := (v4 + (1 : Int32))) (lv' := [(4, .int ((v4 + (1 : Int32)))), (3, .int ((0 : Int32))), (0, .ref (ad 0)), (1, .int v1), (2, .int v2)]) hx hb dX8_same_80 hl (k := 4) rfl rfl (by decide) rfl (fun ls hl => ?_)
              refine lv_goto (tgt := 34) hx hb dX8_same_83 (by decide) ?_
              exact ih v1 v2 ((0 : Int32)) ((v4 + (1 : Int32))) H locs ls h hP hD hS (lv_sub hl [2, 3, 4, 1, 0] rfl)
            · have h := g_t h cz
              refine lv_iconst (v := 1) hx hb dX8_same_74 (by decide) ?_
              refine lv_goto (tgt := 79) hx hb dX8_same_75 (by decide) ?_
              refine lv_istore_n (lv' := [(3, .int ((1 : Int32))), (0, .ref (ad 0)), (1, .int v1), (2, .int v2), (4, .int v4)]) hx hb dX8_same_79 rfl hl (by decide) rfl (fun ls hl => ?_)
              refine lv_iinc (v := (v4 + (1 : Int32))) (lv' := [(4, .int ((v4 + (1 : Int32)))), (3, .int ((1 : Int32))), (0, .ref (ad 0)), (1, .int v1), (2, .int v2)]) hx hb dX8_same_80 hl (k := 4) rfl rfl (by decide) rfl (fun ls hl => ?_)
              refine lv_goto (tgt := 34) hx hb dX8_same_83 (by decide) ?_
              exact ih v1 v2 ((1 : Int32)) ((v4 + (1 : Int32))) H locs ls h hP hD hS (lv_sub hl [2, 3, 4, 1, 0] rfl)
  intro H locs hP hD hS
  unfold f_M_same at h
  refine lv_aload_n hx hb dX8_same_0 rfl (lv_at hl 0 rfl) ?_
  refine va_get (D := (dC, dI)) (ci := 8) (v := .int (iM 37)) (C := RX8) (T := TX8) (N := 78) hx hb hts ki8 hown hK hP 0 rfl rfl 37 (by decide) kf356 (fun _ h9 => h9) rfl dX8_same_1 ?_
  refine lv_if_ne (tgt := 10) hx hb dX8_same_4 (by decide) (fun cz => ?_) (fun cz => ?_)
  · have h := g_f h cz
    refine lv_aload_n hx hb dX8_same_10 rfl (lv_at hl 0 rfl) ?_
    refine lv_iload_n hx hb dX8_same_11 rfl (lv_at hl 1 rfl) ?_
    obtain ⟨q12, e12, h⟩ := g_b h
    refine callVis (cc := cX8_same) (w1 := zzM ad cy iM aM) (As := [.int a1]) (rest := []) ⟨hx, hb, hml, hown, hts⟩ (c_M_noQuestion l dC dI cy ad H.size a1 iM aM q12 e12) (cwV 1 hts (goodV m_ml_X8_411 m_im_X8_noQuestion m_se_X8_noQuestion m_in_X8 m_cd_X8_noQuestion) rfl rfl rfl (by decide +kernel) ⟨Nat.le_of_ble_eq_true rfl, Nat.le_of_ble_eq_true rfl⟩) hN hK hP hD hS hA rfl 0 rfl rfl rfl hl.1 rfl (Nat.le_of_ble_eq_true rfl) dX8_same_12 ⟨Nat.zero_le _, Nat.zero_le _⟩ (fun H locs hP hD hS => ?_)
    refine lv_if_ne (tgt := 26) hx hb dX8_same_15 (by decide) (fun cz => ?_) (fun cz => ?_)
    · have h := g_f h cz
      refine lv_bipush (v := (-102)) hx hb dX8_same_26 (by decide) ?_
      have h' := Option.some.inj h
      rw [← hQQ]
      exact W.iret (v := (-102 : Int32)) hx hb hr (fun t ht hW => ⟨⟨(-102 : Int32), (), rfl, by rw [← h'], by rw [← hWQ, ht]; exact hP, va_K.moved hW.alike hK⟩, hS.F ht⟩) hS.2.2 dX8_same_28
    · have h := g_t h cz
      refine lv_aload_n hx hb dX8_same_18 rfl (lv_at hl 0 rfl) ?_
      refine lv_iload_n hx hb dX8_same_19 rfl (lv_at hl 2 rfl) ?_
      obtain ⟨q20, e20, h⟩ := g_b h
      refine callVis (cc := cX8_same) (w1 := zzM ad cy iM aM) (As := [.int a2]) (rest := []) ⟨hx, hb, hml, hown, hts⟩ (c_M_noQuestion l dC dI cy ad H.size a2 iM aM q20 e20) (cwV 1 hts (goodV m_ml_X8_411 m_im_X8_noQuestion m_se_X8_noQuestion m_in_X8 m_cd_X8_noQuestion) rfl rfl rfl (by decide +kernel) ⟨Nat.le_of_ble_eq_true rfl, Nat.le_of_ble_eq_true rfl⟩) hN hK hP hD hS hA rfl 0 rfl rfl rfl hl.1 rfl (Nat.le_of_ble_eq_true rfl) dX8_same_20 ⟨Nat.zero_le _, Nat.zero_le _⟩ (fun H locs hP hD hS => ?_)
      refine lv_if_eq (tgt := 29) hx hb dX8_same_23 (by decide) (fun cz => ?_) (fun cz => ?_)
      · have h := g_t h cz
        refine lv_iconst (v := 1) hx hb dX8_same_29 (by decide) ?_
        refine lv_istore_n (lv' := [(3, .int ((1 : Int32))), (0, .ref (ad 0)), (1, .int a1), (2, .int a2)]) hx hb dX8_same_30 rfl hl (by decide) rfl (fun ls hl => ?_)
        refine lv_iconst (v := 0) hx hb dX8_same_31 (by decide) ?_
        refine lv_istore (lv' := [(4, .int ((0 : Int32))), (3, .int ((1 : Int32))), (0, .ref (ad 0)), (1, .int a1), (2, .int a2)]) hx hb dX8_same_32 hl (by decide) rfl (fun ls hl => ?_)
        exact B34 N a1 a2 ((1 : Int32)) ((0 : Int32)) H locs ls h hP hD hS (lv_sub hl [2, 3, 4, 1, 0] rfl)
      · have h := g_f h cz
        refine lv_bipush (v := (-102)) hx hb dX8_same_26 (by decide) ?_
        have h' := Option.some.inj h
        rw [← hQQ]
        exact W.iret (v := (-102 : Int32)) hx hb hr (fun t ht hW => ⟨⟨(-102 : Int32), (), rfl, by rw [← h'], by rw [← hWQ, ht]; exact hP, va_K.moved hW.alike hK⟩, hS.F ht⟩) hS.2.2 dX8_same_28
  · have h := g_t h cz
    refine lv_bipush (v := (-101)) hx hb dX8_same_7 (by decide) ?_
    have h' := Option.some.inj h
    rw [← hQQ]
    exact W.iret (v := (-101 : Int32)) hx hb hr (fun t ht hW => ⟨⟨(-101 : Int32), (), rfl, by rw [← h'], by rw [← hWQ, ht]; exact hP, va_K.moved hW.alike hK⟩, hS.F ht⟩) hS.2.2 dX8_same_9
set_option maxHeartbeats 8000000 in
set_option maxRecDepth 100000 in
theorem c_M_put (l : Launch) (dC : Nat → ClassId) (dI : Nat → Nat → Nat) (cy : Nat → ClassId) (ad : Nat → Nat) (sz : Nat) (a1 : Int32) (iM : Nat → Int32) (aM : Nat → Nat → Int32) (q : Int32 × (Nat → Int32)) (h : f_M_put a1 (iM 73) (aM 72) = some q) : Met l yX8_put wsX8_put ({ frames := 0, cells := 0, slots := 0, locals := 0 } : Room) (cP (dC, dI) cy [.ref (ad 0), .int a1] (zzM ad cy iM aM) sz) (cQv (dC, dI) cy (zzM ad cy (us iM [(73, q.1)]) (us aM [(72, q.2)])) (va_A (zzM ad cy iM aM) sz)) 0 0 (va_A (zzM ad cy iM aM) sz) := by
  refine Met.ofW (cc := cX8_put) (maxL := 2) (ret := none) (by decide) rfl ?_
  intro p e s m args below meth c s₁ B hml hv
  obtain ⟨hav, hsz, hP, hK, hD0, hN⟩ := hv
  have hx := B.exec
  have hb := B.bytes
  have hr := B.returns
  have hts := atoms_spec (ws := wsX8_put) B.pre
  have hown : s.vm.findClass RX8 = some m.cls := findClass_of_methodNamed B.named
  have hlocks := B.notSynchronized
  subst hsz
  have hD := hD0.self (sz := s.heap.size)
  generalize hAe : va_A (zzM ad cy iM aM) s.heap.size = A at hD ⊢
  have hA : ∀ q : Nat, s.heap.size ≤ q → A q := fun q h => by rw [← hAe]; exact Or.inr h
  have hS : va_S A s.heap s.heap [] := va_S.rf
  generalize hWQ : (zzM ad cy (us iM [(73, q.1)]) (us aM [(72, q.2)])) = WQ
  generalize hQQ : MQ below (cQv (dC, dI) cy WQ A) args s 0 0 A = QQ
  have hl := lv_entry ([.ref (ad 0), .int a1] : List Value) (n := 2) (Nat.le_of_ble_eq_true rfl)
  have hfr := lg_entry_eq m ([.ref (ad 0), .int a1] : List Value) 2
  rw [← hav] at hfr
  rw [hfr]
  clear hfr hav
  generalize (lg_sl ([.ref (ad 0), .int a1] : List Value) ++ List.replicate (2 - (lg_sl ([.ref (ad 0), .int a1] : List Value)).length) Slot.unset).toArray = ls at hl ⊢
  have hl : lv_has ls 2 [(0, .ref (ad 0)), (1, .int a1)] := hl
  have kf135 := hts _ (List.mem_cons_of_mem _ m_fl_X8_135)
  have ki8 := (fun w h => List.mem_cons_of_mem _ (i_X8 w h) : ∀ w ∈ u_ws RX8 TX8 78, w ∈ wsX8_put)
  have kf402 := hts _ (List.mem_cons_of_mem _ m_fl_X8_402)
  refine (?_ : ∀ (H : Heap) (locs : List Loc), va_P (dC, dI) vwCl (zzM ad cy iM aM) H → va_D A (zzM ad cy iM aM) → va_S A s.heap H locs → W p l e ({ frames := 0, cells := 0, slots := 0, locals := 0 } : Room) s m args below meth c H locs 0 0 QQ (F0 m 0 ls [])) s.heap [] hP hD hS
  clear hP hD hS
  intro H locs hP hD hS
  unfold f_M_put at h
  refine lv_aload_n hx hb dX8_put_0 rfl (lv_at hl 0 rfl) ?_
  refine va_get (D := (dC, dI)) (ci := 8) (v := .ref (ad 40)) (C := RX8) (T := TX8) (N := 78) hx hb hts ki8 hown hK hP 0 rfl rfl 72 (by decide) kf135 (fun _ h9 => h9) rfl dX8_put_1 ?_
  refine lv_aload_n hx hb dX8_put_4 rfl (lv_at hl 0 rfl) ?_
  refine va_get (D := (dC, dI)) (ci := 8) (v := .int (iM 73)) (C := RX8) (T := TX8) (N := 78) hx hb hts ki8 hown hK hP 0 rfl rfl 73 (by decide) kf402 (fun _ h9 => h9) rfl dX8_put_5 ?_
  refine lv_iload_n hx hb dX8_put_8 rfl (lv_at hl 1 rfl) ?_
  refine lv_i2b (v := (a1).toInt8.toInt32) hx hb dX8_put_9 rfl ?_
  obtain ⟨g_140, h⟩ := g_n h
  refine va_bast (f := (aM 72)) hx hb hK hP hD hS 40 1 rfl rfl g_140 dX8_put_10 (fun H locs hP hD hS => ?_)
  have hP : va_P (dC, dI) vwCl (zzM ad cy iM (us aM [(72, (upd (aM 72) (iM 73).toNatClampNeg (vp_nar .byte (a1).toInt8.toInt32)))])) H := Eq.mp (congrArg (fun w => va_P (dC, dI) vwCl w H) (sfM_aM72 ad cy iM aM ((upd (aM 72) (iM 73).toNatClampNeg (vp_nar .byte (a1).toInt8.toInt32))))) hP
  have hD : va_D A (zzM ad cy iM (us aM [(72, (upd (aM 72) (iM 73).toNatClampNeg (vp_nar .byte (a1).toInt8.toInt32)))])) := Eq.mp (congrArg (fun w => va_D A w) (sfM_aM72 ad cy iM aM ((upd (aM 72) (iM 73).toNatClampNeg (vp_nar .byte (a1).toInt8.toInt32))))) hD
  refine lv_aload_n hx hb dX8_put_11 rfl (lv_at hl 0 rfl) ?_
  refine lv_dup hx hb dX8_put_12 rfl ?_
  refine va_get (D := (dC, dI)) (ci := 8) (v := .int (iM 73)) (C := RX8) (T := TX8) (N := 78) hx hb hts ki8 hown hK hP 0 rfl rfl 73 (by decide) kf402 (fun _ h9 => h9) rfl dX8_put_13 ?_
  refine lv_iconst (v := 1) hx hb dX8_put_16 (by decide) ?_
  refine lv_iadd hx hb dX8_put_17 ?_
  refine va_put (D := (dC, dI)) (ci := 8) (v := .int (((iM 73) + (1 : Int32)))) (ty := .int) (C := RX8) (T := TX8) (N := 78) hx hb hts ki8 tyX8 tyX8_ok nmX8 hown hK hP hD hS 0 rfl rfl 73 (by decide) kf402 (fun _ h9 => h9) rfl (by decide +kernel) rfl rfl (Nat.le_of_ble_eq_true rfl) dX8_put_18 (fun H locs hP hD hS => ?_)
  have hP : va_P (dC, dI) vwCl (zzM ad cy (us iM [(73, ((iM 73) + (1 : Int32)))]) (us aM [(72, (upd (aM 72) (iM 73).toNatClampNeg (vp_nar .byte (a1).toInt8.toInt32)))])) H := Eq.mp (congrArg (fun w => va_P (dC, dI) vwCl w H) (sfM_iM73 ad cy iM (us aM [(72, (upd (aM 72) (iM 73).toNatClampNeg (vp_nar .byte (a1).toInt8.toInt32)))]) (((iM 73) + (1 : Int32))))) hP
  have hD : va_D A (zzM ad cy (us iM [(73, ((iM 73) + (1 : Int32)))]) (us aM [(72, (upd (aM 72) (iM 73).toNatClampNeg (vp_nar .byte (a1).toInt8.toInt32)))])) := Eq.mp (congrArg (fun w => va_D A w) (sfM_iM73 ad cy iM (us aM [(72, (upd (aM 72) (iM 73).toNatClampNeg (vp_nar .byte (a1).toInt8.toInt32)))]) (((iM 73) + (1 : Int32))))) hD
  have h' := Option.some.inj h
  rw [← hQQ]
  exact W.vret hx hb hr (fun t ht hW => ⟨⟨(), rfl, trivial, by rw [← hWQ, ← h', ht]; exact hP, va_K.moved hW.alike hK⟩, hS.F ht⟩) hS.2.2 dX8_put_21
set_option maxHeartbeats 8000000 in
set_option maxRecDepth 100000 in
theorem c_M_later (l : Launch) (dC : Nat → ClassId) (dI : Nat → Nat → Nat) (cy : Nat → ClassId) (ad : Nat → Nat) (sz : Nat) (a1 : Int32) (a2 : Int32) (a3 : Int32) (iM : Nat → Int32) (aM : Nat → Nat → Int32) (q : Int32 × (Nat → Int32) × (Nat → Int32) × (Nat → Int32)) (h : f_M_later a1 a2 a3 (iM 77) (aM 74) (aM 75) (aM 76) = some q) : Met l yX8_later wsX8_later ({ frames := 0, cells := 0, slots := 0, locals := 0 } : Room) (cP (dC, dI) cy [.ref (ad 0), .int a1, .int a2, .int a3] (zzM ad cy iM aM) sz) (cQv (dC, dI) cy (zzM ad cy (us iM [(77, q.1)]) (us aM [(74, q.2.1), (75, q.2.2.1), (76, q.2.2.2)])) (va_A (zzM ad cy iM aM) sz)) 0 0 (va_A (zzM ad cy iM aM) sz) := by
  refine Met.ofW (cc := cX8_later) (maxL := 4) (ret := none) (by decide) rfl ?_
  intro p e s m args below meth c s₁ B hml hv
  obtain ⟨hav, hsz, hP, hK, hD0, hN⟩ := hv
  have hx := B.exec
  have hb := B.bytes
  have hr := B.returns
  have hts := atoms_spec (ws := wsX8_later) B.pre
  have hown : s.vm.findClass RX8 = some m.cls := findClass_of_methodNamed B.named
  have hlocks := B.notSynchronized
  subst hsz
  have hD := hD0.self (sz := s.heap.size)
  generalize hAe : va_A (zzM ad cy iM aM) s.heap.size = A at hD ⊢
  have hA : ∀ q : Nat, s.heap.size ≤ q → A q := fun q h => by rw [← hAe]; exact Or.inr h
  have hS : va_S A s.heap s.heap [] := va_S.rf
  generalize hWQ : (zzM ad cy (us iM [(77, q.1)]) (us aM [(74, q.2.1), (75, q.2.2.1), (76, q.2.2.2)])) = WQ
  generalize hQQ : MQ below (cQv (dC, dI) cy WQ A) args s 0 0 A = QQ
  have hl := lv_entry ([.ref (ad 0), .int a1, .int a2, .int a3] : List Value) (n := 4) (Nat.le_of_ble_eq_true rfl)
  have hfr := lg_entry_eq m ([.ref (ad 0), .int a1, .int a2, .int a3] : List Value) 4
  rw [← hav] at hfr
  rw [hfr]
  clear hfr hav
  generalize (lg_sl ([.ref (ad 0), .int a1, .int a2, .int a3] : List Value) ++ List.replicate (4 - (lg_sl ([.ref (ad 0), .int a1, .int a2, .int a3] : List Value)).length) Slot.unset).toArray = ls at hl ⊢
  have hl : lv_has ls 4 [(0, .ref (ad 0)), (1, .int a1), (2, .int a2), (3, .int a3)] := hl
  have kf138 := hts _ (List.mem_cons_of_mem _ m_fl_X8_138)
  have ki8 := (fun w h => List.mem_cons_of_mem _ (i_X8 w h) : ∀ w ∈ u_ws RX8 TX8 78, w ∈ wsX8_later)
  have kf438 := hts _ (List.mem_cons_of_mem _ m_fl_X8_438)
  have kf141 := hts _ (List.mem_cons_of_mem _ m_fl_X8_141)
  have kf144 := hts _ (List.mem_cons_of_mem _ m_fl_X8_144)
  refine (?_ : ∀ (H : Heap) (locs : List Loc), va_P (dC, dI) vwCl (zzM ad cy iM aM) H → va_D A (zzM ad cy iM aM) → va_S A s.heap H locs → W p l e ({ frames := 0, cells := 0, slots := 0, locals := 0 } : Room) s m args below meth c H locs 0 0 QQ (F0 m 0 ls [])) s.heap [] hP hD hS
  clear hP hD hS
  intro H locs hP hD hS
  unfold f_M_later at h
  refine lv_aload_n hx hb dX8_later_0 rfl (lv_at hl 0 rfl) ?_
  refine va_get (D := (dC, dI)) (ci := 8) (v := .ref (ad 41)) (C := RX8) (T := TX8) (N := 78) hx hb hts ki8 hown hK hP 0 rfl rfl 74 (by decide) kf138 (fun _ h9 => h9) rfl dX8_later_1 ?_
  refine lv_aload_n hx hb dX8_later_4 rfl (lv_at hl 0 rfl) ?_
  refine va_get (D := (dC, dI)) (ci := 8) (v := .int (iM 77)) (C := RX8) (T := TX8) (N := 78) hx hb hts ki8 hown hK hP 0 rfl rfl 77 (by decide) kf438 (fun _ h9 => h9) rfl dX8_later_5 ?_
  refine lv_iload_n hx hb dX8_later_8 rfl (lv_at hl 1 rfl) ?_
  obtain ⟨g_141, h⟩ := g_n h
  refine va_iast (f := (aM 74)) hx hb hK hP hD hS 41 0 rfl rfl g_141 dX8_later_9 (fun H locs hP hD hS => ?_)
  have hP : va_P (dC, dI) vwCl (zzM ad cy iM (us aM [(74, (upd (aM 74) (iM 77).toNatClampNeg a1))])) H := Eq.mp (congrArg (fun w => va_P (dC, dI) vwCl w H) (sfM_aM74 ad cy iM aM ((upd (aM 74) (iM 77).toNatClampNeg a1)))) hP
  have hD : va_D A (zzM ad cy iM (us aM [(74, (upd (aM 74) (iM 77).toNatClampNeg a1))])) := Eq.mp (congrArg (fun w => va_D A w) (sfM_aM74 ad cy iM aM ((upd (aM 74) (iM 77).toNatClampNeg a1)))) hD
  refine lv_aload_n hx hb dX8_later_10 rfl (lv_at hl 0 rfl) ?_
  refine va_get (D := (dC, dI)) (ci := 8) (v := .ref (ad 42)) (C := RX8) (T := TX8) (N := 78) hx hb hts ki8 hown hK hP 0 rfl rfl 75 (by decide) kf141 (fun _ h9 => h9) rfl dX8_later_11 ?_
  refine lv_aload_n hx hb dX8_later_14 rfl (lv_at hl 0 rfl) ?_
  refine va_get (D := (dC, dI)) (ci := 8) (v := .int (iM 77)) (C := RX8) (T := TX8) (N := 78) hx hb hts ki8 hown hK hP 0 rfl rfl 77 (by decide) kf438 (fun _ h9 => h9) rfl dX8_later_15 ?_
  refine lv_iload_n hx hb dX8_later_18 rfl (lv_at hl 2 rfl) ?_
  refine va_iast (f := (aM 75)) hx hb hK hP hD hS 42 0 rfl rfl g_141 dX8_later_19 (fun H locs hP hD hS => ?_)
  have hP : va_P (dC, dI) vwCl (zzM ad cy iM (us aM [(74, (upd (aM 74) (iM 77).toNatClampNeg a1)), (75, (upd (aM 75) (iM 77).toNatClampNeg a2))])) H := Eq.mp (congrArg (fun w => va_P (dC, dI) vwCl w H) (stM_aM75 ad cy iM aM [(74, (upd (aM 74) (iM 77).toNatClampNeg a1))] ((upd (aM 75) (iM 77).toNatClampNeg a2)))) hP
  have hD : va_D A (zzM ad cy iM (us aM [(74, (upd (aM 74) (iM 77).toNatClampNeg a1)), (75, (upd (aM 75) (iM 77).toNatClampNeg a2))])) := Eq.mp (congrArg (fun w => va_D A w) (stM_aM75 ad cy iM aM [(74, (upd (aM 74) (iM 77).toNatClampNeg a1))] ((upd (aM 75) (iM 77).toNatClampNeg a2)))) hD
  refine lv_aload_n hx hb dX8_later_20 rfl (lv_at hl 0 rfl) ?_
  refine va_get (D := (dC, dI)) (ci := 8) (v := .ref (ad 43)) (C := RX8) (T := TX8) (N := 78) hx hb hts ki8 hown hK hP 0 rfl rfl 76 (by decide) kf144 (fun _ h9 => h9) rfl dX8_later_21 ?_
  refine lv_aload_n hx hb dX8_later_24 rfl (lv_at hl 0 rfl) ?_
  refine va_get (D := (dC, dI)) (ci := 8) (v := .int (iM 77)) (C := RX8) (T := TX8) (N := 78) hx hb hts ki8 hown hK hP 0 rfl rfl 77 (by decide) kf438 (fun _ h9 => h9) rfl dX8_later_25 ?_
  refine lv_iload_n hx hb dX8_later_28 rfl (lv_at hl 3 rfl) ?_
  refine va_iast (f := (aM 76)) hx hb hK hP hD hS 43 0 rfl rfl g_141 dX8_later_29 (fun H locs hP hD hS => ?_)
  have hP : va_P (dC, dI) vwCl (zzM ad cy iM (us aM [(74, (upd (aM 74) (iM 77).toNatClampNeg a1)), (75, (upd (aM 75) (iM 77).toNatClampNeg a2)), (76, (upd (aM 76) (iM 77).toNatClampNeg a3))])) H := Eq.mp (congrArg (fun w => va_P (dC, dI) vwCl w H) (stM_aM76 ad cy iM aM [(74, (upd (aM 74) (iM 77).toNatClampNeg a1)), (75, (upd (aM 75) (iM 77).toNatClampNeg a2))] ((upd (aM 76) (iM 77).toNatClampNeg a3)))) hP
  have hD : va_D A (zzM ad cy iM (us aM [(74, (upd (aM 74) (iM 77).toNatClampNeg a1)), (75, (upd (aM 75) (iM 77).toNatClampNeg a2)), (76, (upd (aM 76) (iM 77).toNatClampNeg a3))])) := Eq.mp (congrArg (fun w => va_D A w) (stM_aM76 ad cy iM aM [(74, (upd (aM 74) (iM 77).toNatClampNeg a1)), (75, (upd (aM 75) (iM 77).toNatClampNeg a2))] ((upd (aM 76) (iM 77).toNatClampNeg a3)))) hD
  refine lv_aload_n hx hb dX8_later_30 rfl (lv_at hl 0 rfl) ?_
  refine lv_dup hx hb dX8_later_31 rfl ?_
  refine va_get (D := (dC, dI)) (ci := 8) (v := .int (iM 77)) (C := RX8) (T := TX8) (N := 78) hx hb hts ki8 hown hK hP 0 rfl rfl 77 (by decide) kf438 (fun _ h9 => h9) rfl dX8_later_32 ?_
  refine lv_iconst (v := 1) hx hb dX8_later_35 (by decide) ?_
  refine lv_iadd hx hb dX8_later_36 ?_
  refine va_put (D := (dC, dI)) (ci := 8) (v := .int (((iM 77) + (1 : Int32)))) (ty := .int) (C := RX8) (T := TX8) (N := 78) hx hb hts ki8 tyX8 tyX8_ok nmX8 hown hK hP hD hS 0 rfl rfl 77 (by decide) kf438 (fun _ h9 => h9) rfl (by decide +kernel) rfl rfl (Nat.le_of_ble_eq_true rfl) dX8_later_37 (fun H locs hP hD hS => ?_)
  have hP : va_P (dC, dI) vwCl (zzM ad cy (us iM [(77, ((iM 77) + (1 : Int32)))]) (us aM [(74, (upd (aM 74) (iM 77).toNatClampNeg a1)), (75, (upd (aM 75) (iM 77).toNatClampNeg a2)), (76, (upd (aM 76) (iM 77).toNatClampNeg a3))])) H := Eq.mp (congrArg (fun w => va_P (dC, dI) vwCl w H) (sfM_iM77 ad cy iM (us aM [(74, (upd (aM 74) (iM 77).toNatClampNeg a1)), (75, (upd (aM 75) (iM 77).toNatClampNeg a2)), (76, (upd (aM 76) (iM 77).toNatClampNeg a3))]) (((iM 77) + (1 : Int32))))) hP
  have hD : va_D A (zzM ad cy (us iM [(77, ((iM 77) + (1 : Int32)))]) (us aM [(74, (upd (aM 74) (iM 77).toNatClampNeg a1)), (75, (upd (aM 75) (iM 77).toNatClampNeg a2)), (76, (upd (aM 76) (iM 77).toNatClampNeg a3))])) := Eq.mp (congrArg (fun w => va_D A w) (sfM_iM77 ad cy iM (us aM [(74, (upd (aM 74) (iM 77).toNatClampNeg a1)), (75, (upd (aM 75) (iM 77).toNatClampNeg a2)), (76, (upd (aM 76) (iM 77).toNatClampNeg a3))]) (((iM 77) + (1 : Int32))))) hD
  have h' := Option.some.inj h
  rw [← hQQ]
  exact W.vret hx hb hr (fun t ht hW => ⟨⟨(), rfl, trivial, by rw [← hWQ, ← h', ht]; exact hP, va_K.moved hW.alike hK⟩, hS.F ht⟩) hS.2.2 dX8_later_40
set_option maxHeartbeats 8000000 in
set_option maxRecDepth 100000 in
theorem c_M_putWord (l : Launch) (dC : Nat → ClassId) (dI : Nat → Nat → Nat) (cy : Nat → ClassId) (ad : Nat → Nat) (sz : Nat) (N : Nat) (a1 : Int32) (iM : Nat → Int32) (aM : Nat → Nat → Int32) (q : Int32 × (Nat → Int32)) (h : f_M_putWord N a1 (iM 73) (aM 7) (aM 72) = some q) : Met l yX8_putWord wsX8_putWord ({ frames := 1, cells := 0, slots := 0, locals := 21 } : Room) (cP (dC, dI) cy [.ref (ad 0), .int a1] (zzM ad cy iM aM) sz) (cQv (dC, dI) cy (zzM ad cy (us iM [(73, q.1)]) (us aM [(72, q.2)])) (va_A (zzM ad cy iM aM) sz)) 0 0 (va_A (zzM ad cy iM aM) sz) := by
  refine Met.ofW (cc := cX8_putWord) (maxL := 4) (ret := none) (by decide) rfl ?_
  intro p e s m args below meth c s₁ B hml hv
  obtain ⟨hav, hsz, hP, hK, hD0, hN⟩ := hv
  have hx := B.exec
  have hb := B.bytes
  have hr := B.returns
  have hts := atoms_spec (ws := wsX8_putWord) B.pre
  have hown : s.vm.findClass RX8 = some m.cls := findClass_of_methodNamed B.named
  have hlocks := B.notSynchronized
  subst hsz
  have hD := hD0.self (sz := s.heap.size)
  generalize hAe : va_A (zzM ad cy iM aM) s.heap.size = A at hD ⊢
  have hA : ∀ q : Nat, s.heap.size ≤ q → A q := fun q h => by rw [← hAe]; exact Or.inr h
  have hS : va_S A s.heap s.heap [] := va_S.rf
  generalize hWQ : (zzM ad cy (us iM [(73, q.1)]) (us aM [(72, q.2)])) = WQ
  generalize hQQ : MQ below (cQv (dC, dI) cy WQ A) args s 0 0 A = QQ
  have hl := lv_entry ([.ref (ad 0), .int a1] : List Value) (n := 4) (Nat.le_of_ble_eq_true rfl)
  have hfr := lg_entry_eq m ([.ref (ad 0), .int a1] : List Value) 4
  rw [← hav] at hfr
  rw [hfr]
  clear hfr hav
  generalize (lg_sl ([.ref (ad 0), .int a1] : List Value) ++ List.replicate (4 - (lg_sl ([.ref (ad 0), .int a1] : List Value)).length) Slot.unset).toArray = ls at hl ⊢
  have hl : lv_has ls 4 [(0, .ref (ad 0)), (1, .int a1)] := hl
  have kf13 := hts _ (List.mem_cons_of_mem _ m_fl_X8_13)
  have ki8 := (fun w h => List.mem_cons_of_mem _ (i_X8 w h) : ∀ w ∈ u_ws RX8 TX8 78, w ∈ wsX8_putWord)
  refine (?_ : ∀ (H : Heap) (locs : List Loc), va_P (dC, dI) vwCl (zzM ad cy iM aM) H → va_D A (zzM ad cy iM aM) → va_S A s.heap H locs → W p l e ({ frames := 1, cells := 0, slots := 0, locals := 21 } : Room) s m args below meth c H locs 0 0 QQ (F0 m 0 ls [])) s.heap [] hP hD hS
  clear hP hD hS
  have B33 : ∀ (n : Nat) (v2 : Int32) (x_iM73 : Int32) (x_aM72 : Nat → Int32) (H : Heap) (locs : List Loc) (ls : Array Slot), f_M_putWord_33 N (iM 73) (aM 7) (aM 72) n v2 x_iM73 x_aM72 = some q → va_P (dC, dI) vwCl (zzM ad cy (us iM [(73, x_iM73)]) (us aM [(72, x_aM72)])) H → va_D A (zzM ad cy (us iM [(73, x_iM73)]) (us aM [(72, x_aM72)])) → va_S A s.heap H locs → lv_has ls 4 [(0, .ref (ad 0)), (2, .int v2)] → W p l e ({ frames := 1, cells := 0, slots := 0, locals := 21 } : Room) s m args below meth c H locs 0 0 QQ (F0 m 33 ls []) := by
    intro n
    induction n with
    | zero =>
      intro v2 x_iM73 x_aM72 H locs ls h hP hD hS hl
      rw [f_M_putWord_33] at h
      cases h
    | succ n ih =>
      intro v2 x_iM73 x_aM72 H locs ls h hP hD hS hl
      rw [f_M_putWord_33] at h
      refine lv_aload_n hx hb dX8_putWord_33 rfl (lv_at hl 0 rfl) ?_
      refine va_get (D := (dC, dI)) (ci := 8) (v := .ref (ad 2)) (C := RX8) (T := TX8) (N := 78) hx hb hts ki8 hown hK hP 0 rfl rfl 7 (by decide) kf13 (fun _ h9 => h9) rfl dX8_putWord_34 ?_
      refine lv_iload_n hx hb dX8_putWord_37 rfl (lv_at hl 1 rfl) ?_
      obtain ⟨g_142, h⟩ := g_n h
      refine va_cald (f := (aM 7)) hx hb hK hP 2 5 rfl rfl g_142 dX8_putWord_38 ?_
      refine lv_bipush (v := 32) hx hb dX8_putWord_39 (by decide) ?_
      refine lv_icmp_eq (tgt := 60) hx hb dX8_putWord_41 (by decide) (fun cz => ?_) (fun cz => ?_)
      · have h := g_t h cz
        have h' := Option.some.inj h
        rw [← hQQ]
        exact W.vret hx hb hr (fun t ht hW => ⟨⟨(), rfl, trivial, by rw [← hWQ, ← h', ht]; exact hP, va_K.moved hW.alike hK⟩, hS.F ht⟩) hS.2.2 dX8_putWord_60
      · have h := g_f h cz
        refine lv_aload_n hx hb dX8_putWord_44 rfl (lv_at hl 0 rfl) ?_
        refine lv_aload_n hx hb dX8_putWord_45 rfl (lv_at hl 0 rfl) ?_
        refine va_get (D := (dC, dI)) (ci := 8) (v := .ref (ad 2)) (C := RX8) (T := TX8) (N := 78) hx hb hts ki8 hown hK hP 0 rfl rfl 7 (by decide) kf13 (fun _ h9 => h9) rfl dX8_putWord_46 ?_
        refine lv_iload_n hx hb dX8_putWord_49 rfl (lv_at hl 1 rfl) ?_
        refine va_cald (f := (aM 7)) hx hb hK hP 2 5 rfl rfl g_142 dX8_putWord_50 ?_
        obtain ⟨q51, e51, h⟩ := g_b h
        refine callVvs (cc := cX8_putWord) (w1 := zzM ad cy (us iM [(73, q51.1)]) (us aM [(72, q51.2)])) (As := [.int (((aM 7) v2.toNatClampNeg))]) (rest := []) ⟨hx, hb, hml, hown, hts⟩ (c_M_put l dC dI cy ad H.size (((aM 7) v2.toNatClampNeg)) ((us iM [(73, x_iM73)])) ((us aM [(72, x_aM72)])) q51 e51) (cwV 1 hts (goodV m_ml_X8_441 m_im_X8_put m_se_X8_put m_in_X8 m_cd_X8_put) rfl rfl rfl (by decide +kernel) ⟨Nat.le_of_ble_eq_true rfl, Nat.le_of_ble_eq_true rfl⟩) hN hK hP hD hS hA rfl 0 rfl rfl rfl hl.1 rfl (Nat.le_of_ble_eq_true rfl) dX8_putWord_51 ⟨Nat.zero_le _, Nat.zero_le _⟩ (fun H locs hP hD hS => ?_)
        refine lv_iinc (v := (v2 + (1 : Int32))) (lv' := [(2, .int ((v2 + (1 : Int32)))), (0, .ref (ad 0))]) hx hb dX8_putWord_54 hl (k := 1) rfl rfl (by decide) rfl (fun ls hl => ?_)
        refine lv_goto (tgt := 33) hx hb dX8_putWord_57 (by decide) ?_
        exact ih ((v2 + (1 : Int32))) q51.1 q51.2 H locs ls h hP hD hS (lv_sub hl [1, 0] rfl)
  have B4 : ∀ (n : Nat) (v2 : Int32) (v3 : Int32) (H : Heap) (locs : List Loc) (ls : Array Slot), f_M_putWord_4 N (iM 73) (aM 7) (aM 72) n v2 v3 = some q → va_P (dC, dI) vwCl (zzM ad cy iM aM) H → va_D A (zzM ad cy iM aM) → va_S A s.heap H locs → lv_has ls 4 [(0, .ref (ad 0)), (2, .int v2), (3, .int v3)] → W p l e ({ frames := 1, cells := 0, slots := 0, locals := 21 } : Room) s m args below meth c H locs 0 0 QQ (F0 m 4 ls []) := by
    intro n
    induction n with
    | zero =>
      intro v2 v3 H locs ls h hP hD hS hl
      rw [f_M_putWord_4] at h
      cases h
    | succ n ih =>
      intro v2 v3 H locs ls h hP hD hS hl
      rw [f_M_putWord_4] at h
      refine lv_iload_n hx hb dX8_putWord_4 rfl (lv_at hl 2 rfl) ?_
      refine lv_if_le (tgt := 33) hx hb dX8_putWord_5 (by decide) (fun cz => ?_) (fun cz => ?_)
      · have h := g_t h cz
        exact B33 N v2 (iM 73) (aM 72) H locs ls h hP hD hS (lv_sub hl [0, 1] rfl)
      · have h := g_f h cz
        refine lv_iload_n hx hb dX8_putWord_8 rfl (lv_at hl 2 rfl) ?_
        refine lv_aload_n hx hb dX8_putWord_9 rfl (lv_at hl 0 rfl) ?_
        refine va_get (D := (dC, dI)) (ci := 8) (v := .ref (ad 2)) (C := RX8) (T := TX8) (N := 78) hx hb hts ki8 hown hK hP 0 rfl rfl 7 (by decide) kf13 (fun _ h9 => h9) rfl dX8_putWord_10 ?_
        refine lv_iload_n hx hb dX8_putWord_13 rfl (lv_at hl 1 rfl) ?_
        obtain ⟨g_142, h⟩ := g_n h
        refine va_cald (f := (aM 7)) hx hb hK hP 2 5 rfl rfl g_142 dX8_putWord_14 ?_
        refine lv_bipush (v := 32) hx hb dX8_putWord_15 (by decide) ?_
        refine lv_icmp_ne (tgt := 24) hx hb dX8_putWord_17 (by decide) (fun cz => ?_) (fun cz => ?_)
        · have h := g_f h cz
          refine lv_iconst (v := 0) hx hb dX8_putWord_24 (by decide) ?_
          refine lv_isub hx hb dX8_putWord_25 ?_
          refine lv_istore_n (lv' := [(3, .int ((v3 - (0 : Int32)))), (0, .ref (ad 0)), (2, .int v2)]) hx hb dX8_putWord_26 rfl hl (by decide) rfl (fun ls hl => ?_)
          refine lv_iinc (v := (v2 + (1 : Int32))) (lv' := [(2, .int ((v2 + (1 : Int32)))), (3, .int ((v3 - (0 : Int32)))), (0, .ref (ad 0))]) hx hb dX8_putWord_27 hl (k := 2) rfl rfl (by decide) rfl (fun ls hl => ?_)
          refine lv_goto (tgt := 4) hx hb dX8_putWord_30 (by decide) ?_
          exact ih ((v2 + (1 : Int32))) ((v3 - (0 : Int32))) H locs ls h hP hD hS (lv_sub hl [2, 0, 1] rfl)
        · have h := g_t h cz
          refine lv_iconst (v := 1) hx hb dX8_putWord_20 (by decide) ?_
          refine lv_goto (tgt := 25) hx hb dX8_putWord_21 (by decide) ?_
          refine lv_isub hx hb dX8_putWord_25 ?_
          refine lv_istore_n (lv' := [(3, .int ((v3 - (1 : Int32)))), (0, .ref (ad 0)), (2, .int v2)]) hx hb dX8_putWord_26 rfl hl (by decide) rfl (fun ls hl => ?_)
          refine lv_iinc (v := (v2 + (1 : Int32))) (lv' := [(2, .int ((v2 + (1 : Int32)))), (3, .int ((v3 - (1 : Int32)))), (0, .ref (ad 0))]) hx hb dX8_putWord_27 hl (k := 2) rfl rfl (by decide) rfl (fun ls hl => ?_)
          refine lv_goto (tgt := 4) hx hb dX8_putWord_30 (by decide) ?_
          exact ih ((v2 + (1 : Int32))) ((v3 - (1 : Int32))) H locs ls h hP hD hS (lv_sub hl [2, 0, 1] rfl)
  intro H locs hP hD hS
  unfold f_M_putWord at h
  refine lv_iconst (v := 0) hx hb dX8_putWord_0 (by decide) ?_
  refine lv_istore_n (lv' := [(2, .int ((0 : Int32))), (0, .ref (ad 0)), (1, .int a1)]) hx hb dX8_putWord_1 rfl hl (by decide) rfl (fun ls hl => ?_)
  refine lv_iload_n hx hb dX8_putWord_2 rfl (lv_at hl 2 rfl) ?_
  refine lv_istore_n (lv' := [(3, .int a1), (2, .int ((0 : Int32))), (0, .ref (ad 0)), (1, .int a1)]) hx hb dX8_putWord_3 rfl hl (by decide) rfl (fun ls hl => ?_)
  exact B4 N ((0 : Int32)) a1 H locs ls h hP hD hS (lv_sub hl [2, 1, 0] rfl)
set_option maxHeartbeats 8000000 in
set_option maxRecDepth 100000 in
theorem c_M_putRole (l : Launch) (dC : Nat → ClassId) (dI : Nat → Nat → Nat) (cy : Nat → ClassId) (ad : Nat → Nat) (sz : Nat) (N : Nat) (a1 : Int32) (iM : Nat → Int32) (aM : Nat → Nat → Int32) (q : Int32 × (Nat → Int32)) (h : f_M_putRole N a1 (iM 73) (aM 26) (aM 27) (aM 72) = some q) : Met l yX8_putRole wsX8_putRole ({ frames := 1, cells := 0, slots := 0, locals := 21 } : Room) (cP (dC, dI) cy [.ref (ad 0), .int a1] (zzM ad cy iM aM) sz) (cQv (dC, dI) cy (zzM ad cy (us iM [(73, q.1)]) (us aM [(72, q.2)])) (va_A (zzM ad cy iM aM) sz)) 0 0 (va_A (zzM ad cy iM aM) sz) := by
  refine Met.ofW (cc := cX8_putRole) (maxL := 3) (ret := none) (by decide) rfl ?_
  intro p e s m args below meth c s₁ B hml hv
  obtain ⟨hav, hsz, hP, hK, hD0, hN⟩ := hv
  have hx := B.exec
  have hb := B.bytes
  have hr := B.returns
  have hts := atoms_spec (ws := wsX8_putRole) B.pre
  have hown : s.vm.findClass RX8 = some m.cls := findClass_of_methodNamed B.named
  have hlocks := B.notSynchronized
  subst hsz
  have hD := hD0.self (sz := s.heap.size)
  generalize hAe : va_A (zzM ad cy iM aM) s.heap.size = A at hD ⊢
  have hA : ∀ q : Nat, s.heap.size ≤ q → A q := fun q h => by rw [← hAe]; exact Or.inr h
  have hS : va_S A s.heap s.heap [] := va_S.rf
  generalize hWQ : (zzM ad cy (us iM [(73, q.1)]) (us aM [(72, q.2)])) = WQ
  generalize hQQ : MQ below (cQv (dC, dI) cy WQ A) args s 0 0 A = QQ
  have hl := lv_entry ([.ref (ad 0), .int a1] : List Value) (n := 3) (Nat.le_of_ble_eq_true rfl)
  have hfr := lg_entry_eq m ([.ref (ad 0), .int a1] : List Value) 3
  rw [← hav] at hfr
  rw [hfr]
  clear hfr hav
  generalize (lg_sl ([.ref (ad 0), .int a1] : List Value) ++ List.replicate (3 - (lg_sl ([.ref (ad 0), .int a1] : List Value)).length) Slot.unset).toArray = ls at hl ⊢
  have hl : lv_has ls 3 [(0, .ref (ad 0)), (1, .int a1)] := hl
  have kf60 := hts _ (List.mem_cons_of_mem _ m_fl_X8_60)
  have ki8 := (fun w h => List.mem_cons_of_mem _ (i_X8 w h) : ∀ w ∈ u_ws RX8 TX8 78, w ∈ wsX8_putRole)
  have kf57 := hts _ (List.mem_cons_of_mem _ m_fl_X8_57)
  refine (?_ : ∀ (H : Heap) (locs : List Loc), va_P (dC, dI) vwCl (zzM ad cy iM aM) H → va_D A (zzM ad cy iM aM) → va_S A s.heap H locs → W p l e ({ frames := 1, cells := 0, slots := 0, locals := 21 } : Room) s m args below meth c H locs 0 0 QQ (F0 m 0 ls [])) s.heap [] hP hD hS
  clear hP hD hS
  have B2 : ∀ (n : Nat) (v1 : Int32) (v2 : Int32) (x_iM73 : Int32) (x_aM72 : Nat → Int32) (H : Heap) (locs : List Loc) (ls : Array Slot), f_M_putRole_2 N (iM 73) (aM 26) (aM 27) (aM 72) v1 n v2 x_iM73 x_aM72 = some q → va_P (dC, dI) vwCl (zzM ad cy (us iM [(73, x_iM73)]) (us aM [(72, x_aM72)])) H → va_D A (zzM ad cy (us iM [(73, x_iM73)]) (us aM [(72, x_aM72)])) → va_S A s.heap H locs → lv_has ls 3 [(0, .ref (ad 0)), (1, .int v1), (2, .int v2)] → W p l e ({ frames := 1, cells := 0, slots := 0, locals := 21 } : Room) s m args below meth c H locs 0 0 QQ (F0 m 2 ls []) := by
    intro n
    induction n with
    | zero =>
      intro v1 v2 x_iM73 x_aM72 H locs ls h hP hD hS hl
      rw [f_M_putRole_2] at h
      cases h
    | succ n ih =>
      intro v1 v2 x_iM73 x_aM72 H locs ls h hP hD hS hl
      rw [f_M_putRole_2] at h
      refine lv_iload_n hx hb dX8_putRole_2 rfl (lv_at hl 2 rfl) ?_
      refine lv_aload_n hx hb dX8_putRole_3 rfl (lv_at hl 0 rfl) ?_
      refine va_get (D := (dC, dI)) (ci := 8) (v := .ref (ad 17)) (C := RX8) (T := TX8) (N := 78) hx hb hts ki8 hown hK hP 0 rfl rfl 27 (by decide) kf60 (fun _ h9 => h9) rfl dX8_putRole_4 ?_
      refine lv_iload_n hx hb dX8_putRole_7 rfl (lv_at hl 1 rfl) ?_
      obtain ⟨g_118, h⟩ := g_n h
      refine va_iald (f := (aM 27)) hx hb hK hP 17 0 rfl rfl g_118 dX8_putRole_8 ?_
      refine lv_icmp_ge (tgt := 33) hx hb dX8_putRole_9 (by decide) (fun cz => ?_) (fun cz => ?_)
      · have h := g_t h cz
        have h' := Option.some.inj h
        rw [← hQQ]
        exact W.vret hx hb hr (fun t ht hW => ⟨⟨(), rfl, trivial, by rw [← hWQ, ← h', ht]; exact hP, va_K.moved hW.alike hK⟩, hS.F ht⟩) hS.2.2 dX8_putRole_33
      · have h := g_f h cz
        refine lv_aload_n hx hb dX8_putRole_12 rfl (lv_at hl 0 rfl) ?_
        refine lv_aload_n hx hb dX8_putRole_13 rfl (lv_at hl 0 rfl) ?_
        refine va_get (D := (dC, dI)) (ci := 8) (v := .ref (ad 16)) (C := RX8) (T := TX8) (N := 78) hx hb hts ki8 hown hK hP 0 rfl rfl 26 (by decide) kf57 (fun _ h9 => h9) rfl dX8_putRole_14 ?_
        refine lv_bipush (v := 8) hx hb dX8_putRole_17 (by decide) ?_
        refine lv_iload_n hx hb dX8_putRole_19 rfl (lv_at hl 1 rfl) ?_
        refine lv_imul hx hb dX8_putRole_20 ?_
        refine lv_iload_n hx hb dX8_putRole_21 rfl (lv_at hl 2 rfl) ?_
        refine lv_iadd hx hb dX8_putRole_22 ?_
        obtain ⟨g_143, h⟩ := g_n h
        refine va_bald (f := (aM 26)) hx hb hK hP 16 1 rfl rfl g_143 dX8_putRole_23 ?_
        obtain ⟨q24, e24, h⟩ := g_b h
        refine callVvs (cc := cX8_putRole) (w1 := zzM ad cy (us iM [(73, q24.1)]) (us aM [(72, q24.2)])) (As := [.int (((aM 26) ((((8 : Int32) * v1) + v2)).toNatClampNeg))]) (rest := []) ⟨hx, hb, hml, hown, hts⟩ (c_M_put l dC dI cy ad H.size (((aM 26) ((((8 : Int32) * v1) + v2)).toNatClampNeg)) ((us iM [(73, x_iM73)])) ((us aM [(72, x_aM72)])) q24 e24) (cwV 1 hts (goodV m_ml_X8_441 m_im_X8_put m_se_X8_put m_in_X8 m_cd_X8_put) rfl rfl rfl (by decide +kernel) ⟨Nat.le_of_ble_eq_true rfl, Nat.le_of_ble_eq_true rfl⟩) hN hK hP hD hS hA rfl 0 rfl rfl rfl hl.1 rfl (Nat.le_of_ble_eq_true rfl) dX8_putRole_24 ⟨Nat.zero_le _, Nat.zero_le _⟩ (fun H locs hP hD hS => ?_)
        refine lv_iinc (v := (v2 + (1 : Int32))) (lv' := [(2, .int ((v2 + (1 : Int32)))), (0, .ref (ad 0)), (1, .int v1)]) hx hb dX8_putRole_27 hl (k := 2) rfl rfl (by decide) rfl (fun ls hl => ?_)
        refine lv_goto (tgt := 2) hx hb dX8_putRole_30 (by decide) ?_
        exact ih v1 ((v2 + (1 : Int32))) q24.1 q24.2 H locs ls h hP hD hS (lv_sub hl [1, 2, 0] rfl)
  intro H locs hP hD hS
  unfold f_M_putRole at h
  refine lv_iconst (v := 0) hx hb dX8_putRole_0 (by decide) ?_
  refine lv_istore_n (lv' := [(2, .int ((0 : Int32))), (0, .ref (ad 0)), (1, .int a1)]) hx hb dX8_putRole_1 rfl hl (by decide) rfl (fun ls hl => ?_)
  exact B2 N a1 ((0 : Int32)) (iM 73) (aM 72) H locs ls h hP hD hS (lv_sub hl [1, 2, 0] rfl)
set_option maxHeartbeats 8000000 in
set_option maxRecDepth 100000 in
theorem c_M_putName (l : Launch) (dC : Nat → ClassId) (dI : Nat → Nat → Nat) (cy : Nat → ClassId) (ad : Nat → Nat) (sz : Nat) (N : Nat) (a1 : Int32) (iM : Nat → Int32) (aM : Nat → Nat → Int32) (q : Int32 × (Nat → Int32)) (h : f_M_putName N a1 (iM 73) (aM 23) (aM 24) (aM 72) = some q) : Met l yX8_putName wsX8_putName ({ frames := 1, cells := 0, slots := 0, locals := 21 } : Room) (cP (dC, dI) cy [.ref (ad 0), .int a1] (zzM ad cy iM aM) sz) (cQv (dC, dI) cy (zzM ad cy (us iM [(73, q.1)]) (us aM [(72, q.2)])) (va_A (zzM ad cy iM aM) sz)) 0 0 (va_A (zzM ad cy iM aM) sz) := by
  refine Met.ofW (cc := cX8_putName) (maxL := 3) (ret := none) (by decide) rfl ?_
  intro p e s m args below meth c s₁ B hml hv
  obtain ⟨hav, hsz, hP, hK, hD0, hN⟩ := hv
  have hx := B.exec
  have hb := B.bytes
  have hr := B.returns
  have hts := atoms_spec (ws := wsX8_putName) B.pre
  have hown : s.vm.findClass RX8 = some m.cls := findClass_of_methodNamed B.named
  have hlocks := B.notSynchronized
  subst hsz
  have hD := hD0.self (sz := s.heap.size)
  generalize hAe : va_A (zzM ad cy iM aM) s.heap.size = A at hD ⊢
  have hA : ∀ q : Nat, s.heap.size ≤ q → A q := fun q h => by rw [← hAe]; exact Or.inr h
  have hS : va_S A s.heap s.heap [] := va_S.rf
  generalize hWQ : (zzM ad cy (us iM [(73, q.1)]) (us aM [(72, q.2)])) = WQ
  generalize hQQ : MQ below (cQv (dC, dI) cy WQ A) args s 0 0 A = QQ
  have hl := lv_entry ([.ref (ad 0), .int a1] : List Value) (n := 3) (Nat.le_of_ble_eq_true rfl)
  have hfr := lg_entry_eq m ([.ref (ad 0), .int a1] : List Value) 3
  rw [← hav] at hfr
  rw [hfr]
  clear hfr hav
  generalize (lg_sl ([.ref (ad 0), .int a1] : List Value) ++ List.replicate (3 - (lg_sl ([.ref (ad 0), .int a1] : List Value)).length) Slot.unset).toArray = ls at hl ⊢
  have hl : lv_has ls 3 [(0, .ref (ad 0)), (1, .int a1)] := hl
  have kf54 := hts _ (List.mem_cons_of_mem _ m_fl_X8_54)
  have ki8 := (fun w h => List.mem_cons_of_mem _ (i_X8 w h) : ∀ w ∈ u_ws RX8 TX8 78, w ∈ wsX8_putName)
  have kf51 := hts _ (List.mem_cons_of_mem _ m_fl_X8_51)
  refine (?_ : ∀ (H : Heap) (locs : List Loc), va_P (dC, dI) vwCl (zzM ad cy iM aM) H → va_D A (zzM ad cy iM aM) → va_S A s.heap H locs → W p l e ({ frames := 1, cells := 0, slots := 0, locals := 21 } : Room) s m args below meth c H locs 0 0 QQ (F0 m 0 ls [])) s.heap [] hP hD hS
  clear hP hD hS
  have B2 : ∀ (n : Nat) (v1 : Int32) (v2 : Int32) (x_iM73 : Int32) (x_aM72 : Nat → Int32) (H : Heap) (locs : List Loc) (ls : Array Slot), f_M_putName_2 N (iM 73) (aM 23) (aM 24) (aM 72) v1 n v2 x_iM73 x_aM72 = some q → va_P (dC, dI) vwCl (zzM ad cy (us iM [(73, x_iM73)]) (us aM [(72, x_aM72)])) H → va_D A (zzM ad cy (us iM [(73, x_iM73)]) (us aM [(72, x_aM72)])) → va_S A s.heap H locs → lv_has ls 3 [(0, .ref (ad 0)), (1, .int v1), (2, .int v2)] → W p l e ({ frames := 1, cells := 0, slots := 0, locals := 21 } : Room) s m args below meth c H locs 0 0 QQ (F0 m 2 ls []) := by
    intro n
    induction n with
    | zero =>
      intro v1 v2 x_iM73 x_aM72 H locs ls h hP hD hS hl
      rw [f_M_putName_2] at h
      cases h
    | succ n ih =>
      intro v1 v2 x_iM73 x_aM72 H locs ls h hP hD hS hl
      rw [f_M_putName_2] at h
      refine lv_iload_n hx hb dX8_putName_2 rfl (lv_at hl 2 rfl) ?_
      refine lv_aload_n hx hb dX8_putName_3 rfl (lv_at hl 0 rfl) ?_
      refine va_get (D := (dC, dI)) (ci := 8) (v := .ref (ad 15)) (C := RX8) (T := TX8) (N := 78) hx hb hts ki8 hown hK hP 0 rfl rfl 24 (by decide) kf54 (fun _ h9 => h9) rfl dX8_putName_4 ?_
      refine lv_iload_n hx hb dX8_putName_7 rfl (lv_at hl 1 rfl) ?_
      obtain ⟨g_119, h⟩ := g_n h
      refine va_iald (f := (aM 24)) hx hb hK hP 15 0 rfl rfl g_119 dX8_putName_8 ?_
      refine lv_icmp_ge (tgt := 33) hx hb dX8_putName_9 (by decide) (fun cz => ?_) (fun cz => ?_)
      · have h := g_t h cz
        have h' := Option.some.inj h
        rw [← hQQ]
        exact W.vret hx hb hr (fun t ht hW => ⟨⟨(), rfl, trivial, by rw [← hWQ, ← h', ht]; exact hP, va_K.moved hW.alike hK⟩, hS.F ht⟩) hS.2.2 dX8_putName_33
      · have h := g_f h cz
        refine lv_aload_n hx hb dX8_putName_12 rfl (lv_at hl 0 rfl) ?_
        refine lv_aload_n hx hb dX8_putName_13 rfl (lv_at hl 0 rfl) ?_
        refine va_get (D := (dC, dI)) (ci := 8) (v := .ref (ad 14)) (C := RX8) (T := TX8) (N := 78) hx hb hts ki8 hown hK hP 0 rfl rfl 23 (by decide) kf51 (fun _ h9 => h9) rfl dX8_putName_14 ?_
        refine lv_bipush (v := 8) hx hb dX8_putName_17 (by decide) ?_
        refine lv_iload_n hx hb dX8_putName_19 rfl (lv_at hl 1 rfl) ?_
        refine lv_imul hx hb dX8_putName_20 ?_
        refine lv_iload_n hx hb dX8_putName_21 rfl (lv_at hl 2 rfl) ?_
        refine lv_iadd hx hb dX8_putName_22 ?_
        obtain ⟨g_144, h⟩ := g_n h
        refine va_bald (f := (aM 23)) hx hb hK hP 14 1 rfl rfl g_144 dX8_putName_23 ?_
        obtain ⟨q24, e24, h⟩ := g_b h
        refine callVvs (cc := cX8_putName) (w1 := zzM ad cy (us iM [(73, q24.1)]) (us aM [(72, q24.2)])) (As := [.int (((aM 23) ((((8 : Int32) * v1) + v2)).toNatClampNeg))]) (rest := []) ⟨hx, hb, hml, hown, hts⟩ (c_M_put l dC dI cy ad H.size (((aM 23) ((((8 : Int32) * v1) + v2)).toNatClampNeg)) ((us iM [(73, x_iM73)])) ((us aM [(72, x_aM72)])) q24 e24) (cwV 1 hts (goodV m_ml_X8_441 m_im_X8_put m_se_X8_put m_in_X8 m_cd_X8_put) rfl rfl rfl (by decide +kernel) ⟨Nat.le_of_ble_eq_true rfl, Nat.le_of_ble_eq_true rfl⟩) hN hK hP hD hS hA rfl 0 rfl rfl rfl hl.1 rfl (Nat.le_of_ble_eq_true rfl) dX8_putName_24 ⟨Nat.zero_le _, Nat.zero_le _⟩ (fun H locs hP hD hS => ?_)
        refine lv_iinc (v := (v2 + (1 : Int32))) (lv' := [(2, .int ((v2 + (1 : Int32)))), (0, .ref (ad 0)), (1, .int v1)]) hx hb dX8_putName_27 hl (k := 2) rfl rfl (by decide) rfl (fun ls hl => ?_)
        refine lv_goto (tgt := 2) hx hb dX8_putName_30 (by decide) ?_
        exact ih v1 ((v2 + (1 : Int32))) q24.1 q24.2 H locs ls h hP hD hS (lv_sub hl [1, 2, 0] rfl)
  intro H locs hP hD hS
  unfold f_M_putName at h
  refine lv_iconst (v := 0) hx hb dX8_putName_0 (by decide) ?_
  refine lv_istore_n (lv' := [(2, .int ((0 : Int32))), (0, .ref (ad 0)), (1, .int a1)]) hx hb dX8_putName_1 rfl hl (by decide) rfl (fun ls hl => ?_)
  exact B2 N a1 ((0 : Int32)) (iM 73) (aM 72) H locs ls h hP hD hS (lv_sub hl [1, 2, 0] rfl)
set_option maxHeartbeats 8000000 in
set_option maxRecDepth 100000 in
theorem c_M_putOne (l : Launch) (dC : Nat → ClassId) (dI : Nat → Nat → Nat) (cy : Nat → ClassId) (ad : Nat → Nat) (sz : Nat) (N : Nat) (a1 : Int32) (a2 : Int32) (iM : Nat → Int32) (aM : Nat → Nat → Int32) (q : Int32 × Int32 × (Nat → Int32) × (Nat → Int32) × (Nat → Int32) × (Nat → Int32)) (h : f_M_putOne N a1 a2 (iM 73) (iM 77) (aM 7) (aM 8) (aM 9) (aM 10) (aM 23) (aM 24) (aM 26) (aM 27) (aM 72) (aM 74) (aM 75) (aM 76) = some q) : Met l yX8_putOne wsX8_putOne ({ frames := 2, cells := 0, slots := 0, locals := 44 } : Room) (cP (dC, dI) cy [.ref (ad 0), .int a1, .int a2] (zzM ad cy iM aM) sz) (cQv (dC, dI) cy (zzM ad cy (us iM [(73, q.1), (77, q.2.1)]) (us aM [(72, q.2.2.1), (74, q.2.2.2.1), (75, q.2.2.2.2.1), (76, q.2.2.2.2.2)])) (va_A (zzM ad cy iM aM) sz)) 0 0 (va_A (zzM ad cy iM aM) sz) := by
  refine Met.ofW (cc := cX8_putOne) (maxL := 5) (ret := none) (by decide) rfl ?_
  intro p e s m args below meth c s₁ B hml hv
  obtain ⟨hav, hsz, hP, hK, hD0, hN⟩ := hv
  have hx := B.exec
  have hb := B.bytes
  have hr := B.returns
  have hts := atoms_spec (ws := wsX8_putOne) B.pre
  have hown : s.vm.findClass RX8 = some m.cls := findClass_of_methodNamed B.named
  have hlocks := B.notSynchronized
  subst hsz
  have hD := hD0.self (sz := s.heap.size)
  generalize hAe : va_A (zzM ad cy iM aM) s.heap.size = A at hD ⊢
  have hA : ∀ q : Nat, s.heap.size ≤ q → A q := fun q h => by rw [← hAe]; exact Or.inr h
  have hS : va_S A s.heap s.heap [] := va_S.rf
  generalize hWQ : (zzM ad cy (us iM [(73, q.1), (77, q.2.1)]) (us aM [(72, q.2.2.1), (74, q.2.2.2.1), (75, q.2.2.2.2.1), (76, q.2.2.2.2.2)])) = WQ
  generalize hQQ : MQ below (cQv (dC, dI) cy WQ A) args s 0 0 A = QQ
  have hl := lv_entry ([.ref (ad 0), .int a1, .int a2] : List Value) (n := 5) (Nat.le_of_ble_eq_true rfl)
  have hfr := lg_entry_eq m ([.ref (ad 0), .int a1, .int a2] : List Value) 5
  rw [← hav] at hfr
  rw [hfr]
  clear hfr hav
  generalize (lg_sl ([.ref (ad 0), .int a1, .int a2] : List Value) ++ List.replicate (5 - (lg_sl ([.ref (ad 0), .int a1, .int a2] : List Value)).length) Slot.unset).toArray = ls at hl ⊢
  have hl : lv_has ls 5 [(0, .ref (ad 0)), (1, .int a1), (2, .int a2)] := hl
  have kf24 := hts _ (List.mem_cons_of_mem _ m_fl_X8_24)
  have ki8 := (fun w h => List.mem_cons_of_mem _ (i_X8 w h) : ∀ w ∈ u_ws RX8 TX8 78, w ∈ wsX8_putOne)
  have kf21 := hts _ (List.mem_cons_of_mem _ m_fl_X8_21)
  have kf17 := hts _ (List.mem_cons_of_mem _ m_fl_X8_17)
  refine (?_ : ∀ (H : Heap) (locs : List Loc), va_P (dC, dI) vwCl (zzM ad cy iM aM) H → va_D A (zzM ad cy iM aM) → va_S A s.heap H locs → W p l e ({ frames := 2, cells := 0, slots := 0, locals := 44 } : Room) s m args below meth c H locs 0 0 QQ (F0 m 0 ls [])) s.heap [] hP hD hS
  clear hP hD hS
  have B90 : ∀ (s1 : Int32) (x_iM73 : Int32) (x_iM77 : Int32) (x_aM72 : Nat → Int32) (x_aM74 : Nat → Int32) (x_aM75 : Nat → Int32) (x_aM76 : Nat → Int32) (H : Heap) (locs : List Loc) (ls : Array Slot), f_M_putOne_90 N (iM 73) (iM 77) (aM 7) (aM 8) (aM 9) (aM 10) (aM 23) (aM 24) (aM 26) (aM 27) (aM 72) (aM 74) (aM 75) (aM 76) s1 x_iM73 x_iM77 x_aM72 x_aM74 x_aM75 x_aM76 = some q → va_P (dC, dI) vwCl (zzM ad cy (us iM [(73, x_iM73), (77, x_iM77)]) (us aM [(72, x_aM72), (74, x_aM74), (75, x_aM75), (76, x_aM76)])) H → va_D A (zzM ad cy (us iM [(73, x_iM73), (77, x_iM77)]) (us aM [(72, x_aM72), (74, x_aM74), (75, x_aM75), (76, x_aM76)])) → va_S A s.heap H locs → lv_has ls 5 [] → W p l e ({ frames := 2, cells := 0, slots := 0, locals := 44 } : Room) s m args below meth c H locs 0 0 QQ (F0 m 90 ls [.int s1, .ref (ad 0)]) := by
    intro s1 x_iM73 x_iM77 x_aM72 x_aM74 x_aM75 x_aM76 H locs ls h hP hD hS hl
    unfold f_M_putOne_90 at h
    obtain ⟨q90, e90, h⟩ := g_b h
    refine callVvs (cc := cX8_putOne) (w1 := zzM ad cy (us iM [(73, q90.1), (77, x_iM77)]) (us aM [(72, q90.2), (74, x_aM74), (75, x_aM75), (76, x_aM76)])) (As := [.int s1]) (rest := []) ⟨hx, hb, hml, hown, hts⟩ (c_M_putWord l dC dI cy ad H.size N s1 ((us iM [(73, x_iM73), (77, x_iM77)])) ((us aM [(72, x_aM72), (74, x_aM74), (75, x_aM75), (76, x_aM76)])) q90 e90) (cwV 1 hts (goodV m_ml_X8_449 m_im_X8_putWord m_se_X8_putWord m_in_X8 m_cd_X8_putWord) rfl rfl rfl (by decide +kernel) ⟨Nat.le_of_ble_eq_true rfl, Nat.le_of_ble_eq_true rfl⟩) hN hK hP hD hS hA rfl 0 rfl rfl rfl hl.1 rfl (Nat.le_of_ble_eq_true rfl) dX8_putOne_90 ⟨Nat.zero_le _, Nat.zero_le _⟩ (fun H locs hP hD hS => ?_)
    refine lv_goto (tgt := 230) hx hb dX8_putOne_93 (by decide) ?_
    have h' := Option.some.inj h
    rw [← hQQ]
    exact W.vret hx hb hr (fun t ht hW => ⟨⟨(), rfl, trivial, by rw [← hWQ, ← h', ht]; exact hP, va_K.moved hW.alike hK⟩, hS.F ht⟩) hS.2.2 dX8_putOne_230
  have B77 : ∀ (v3 : Int32) (x_iM73 : Int32) (x_iM77 : Int32) (x_aM72 : Nat → Int32) (x_aM74 : Nat → Int32) (x_aM75 : Nat → Int32) (x_aM76 : Nat → Int32) (H : Heap) (locs : List Loc) (ls : Array Slot), f_M_putOne_77 N (iM 73) (iM 77) (aM 7) (aM 8) (aM 9) (aM 10) (aM 23) (aM 24) (aM 26) (aM 27) (aM 72) (aM 74) (aM 75) (aM 76) v3 x_iM73 x_iM77 x_aM72 x_aM74 x_aM75 x_aM76 = some q → va_P (dC, dI) vwCl (zzM ad cy (us iM [(73, x_iM73), (77, x_iM77)]) (us aM [(72, x_aM72), (74, x_aM74), (75, x_aM75), (76, x_aM76)])) H → va_D A (zzM ad cy (us iM [(73, x_iM73), (77, x_iM77)]) (us aM [(72, x_aM72), (74, x_aM74), (75, x_aM75), (76, x_aM76)])) → va_S A s.heap H locs → lv_has ls 5 [(0, .ref (ad 0)), (3, .int v3)] → W p l e ({ frames := 2, cells := 0, slots := 0, locals := 44 } : Room) s m args below meth c H locs 0 0 QQ (F0 m 77 ls []) := by
    intro v3 x_iM73 x_iM77 x_aM72 x_aM74 x_aM75 x_aM76 H locs ls h hP hD hS hl
    unfold f_M_putOne_77 at h
    refine lv_aload_n hx hb dX8_putOne_77 rfl (lv_at hl 0 rfl) ?_
    refine lv_iload_n hx hb dX8_putOne_78 rfl (lv_at hl 1 rfl) ?_
    refine lv_iconst (v := 1) hx hb dX8_putOne_79 (by decide) ?_
    refine lv_icmp_ne (tgt := 88) hx hb dX8_putOne_80 (by decide) (fun cz => ?_) (fun cz => ?_)
    · have h := g_f h cz
      refine lv_bipush (v := 9) hx hb dX8_putOne_88 (by decide) ?_
      exact B90 ((9 : Int32)) x_iM73 x_iM77 x_aM72 x_aM74 x_aM75 x_aM76 H locs ls h hP hD hS (lv_sub hl [] rfl)
    · have h := g_t h cz
      refine lv_bipush (v := 8) hx hb dX8_putOne_83 (by decide) ?_
      refine lv_goto (tgt := 90) hx hb dX8_putOne_85 (by decide) ?_
      exact B90 ((8 : Int32)) x_iM73 x_iM77 x_aM72 x_aM74 x_aM75 x_aM76 H locs ls h hP hD hS (lv_sub hl [] rfl)
  have B154 : ∀ (v1 : Int32) (x_iM73 : Int32) (x_iM77 : Int32) (x_aM72 : Nat → Int32) (x_aM74 : Nat → Int32) (x_aM75 : Nat → Int32) (x_aM76 : Nat → Int32) (H : Heap) (locs : List Loc) (ls : Array Slot), f_M_putOne_154 N (iM 73) (iM 77) (aM 7) (aM 8) (aM 9) (aM 10) (aM 23) (aM 24) (aM 26) (aM 27) (aM 72) (aM 74) (aM 75) (aM 76) v1 x_iM73 x_iM77 x_aM72 x_aM74 x_aM75 x_aM76 = some q → va_P (dC, dI) vwCl (zzM ad cy (us iM [(73, x_iM73), (77, x_iM77)]) (us aM [(72, x_aM72), (74, x_aM74), (75, x_aM75), (76, x_aM76)])) H → va_D A (zzM ad cy (us iM [(73, x_iM73), (77, x_iM77)]) (us aM [(72, x_aM72), (74, x_aM74), (75, x_aM75), (76, x_aM76)])) → va_S A s.heap H locs → lv_has ls 5 [(0, .ref (ad 0)), (1, .int v1)] → W p l e ({ frames := 2, cells := 0, slots := 0, locals := 44 } : Room) s m args below meth c H locs 0 0 QQ (F0 m 154 ls []) := by
    intro v1 x_iM73 x_iM77 x_aM72 x_aM74 x_aM75 x_aM76 H locs ls h hP hD hS hl
    unfold f_M_putOne_154 at h
    refine lv_aload_n hx hb dX8_putOne_154 rfl (lv_at hl 0 rfl) ?_
    refine lv_iconst (v := 0) hx hb dX8_putOne_155 (by decide) ?_
    refine lv_aload_n hx hb dX8_putOne_156 rfl (lv_at hl 0 rfl) ?_
    refine va_get (D := (dC, dI)) (ci := 8) (v := .ref (ad 5)) (C := RX8) (T := TX8) (N := 78) hx hb hts ki8 hown hK hP 0 rfl rfl 10 (by decide) kf24 (fun _ h9 => h9) rfl dX8_putOne_157 ?_
    refine lv_iload_n hx hb dX8_putOne_160 rfl (lv_at hl 1 rfl) ?_
    obtain ⟨g_62, h⟩ := g_n h
    refine va_iald (f := (aM 10)) hx hb hK hP 5 0 rfl rfl g_62 dX8_putOne_161 ?_
    refine lv_iconst (v := 3) hx hb dX8_putOne_162 (by decide) ?_
    obtain ⟨q163, e163, h⟩ := g_b h
    refine callVvs (cc := cX8_putOne) (w1 := zzM ad cy (us iM [(73, x_iM73), (77, q163.1)]) (us aM [(72, x_aM72), (74, q163.2.1), (75, q163.2.2.1), (76, q163.2.2.2)])) (As := [.int ((0 : Int32)), .int (((aM 10) v1.toNatClampNeg)), .int ((3 : Int32))]) (rest := []) ⟨hx, hb, hml, hown, hts⟩ (c_M_later l dC dI cy ad H.size ((0 : Int32)) (((aM 10) v1.toNatClampNeg)) ((3 : Int32)) ((us iM [(73, x_iM73), (77, x_iM77)])) ((us aM [(72, x_aM72), (74, x_aM74), (75, x_aM75), (76, x_aM76)])) q163 e163) (cwV 3 hts (goodV m_ml_X8_443 m_im_X8_later m_se_X8_later m_in_X8 m_cd_X8_later) rfl rfl rfl (by decide +kernel) ⟨Nat.le_of_ble_eq_true rfl, Nat.le_of_ble_eq_true rfl⟩) hN hK hP hD hS hA rfl 0 rfl rfl rfl hl.1 rfl (Nat.le_of_ble_eq_true rfl) dX8_putOne_163 ⟨Nat.zero_le _, Nat.zero_le _⟩ (fun H locs hP hD hS => ?_)
    refine lv_goto (tgt := 230) hx hb dX8_putOne_166 (by decide) ?_
    have h' := Option.some.inj h
    rw [← hQQ]
    exact W.vret hx hb hr (fun t ht hW => ⟨⟨(), rfl, trivial, by rw [← hWQ, ← h', ht]; exact hP, va_K.moved hW.alike hK⟩, hS.F ht⟩) hS.2.2 dX8_putOne_230
  have B124 : ∀ (v1 : Int32) (v3 : Int32) (s1 : Int32) (x_iM73 : Int32) (x_iM77 : Int32) (x_aM72 : Nat → Int32) (x_aM74 : Nat → Int32) (x_aM75 : Nat → Int32) (x_aM76 : Nat → Int32) (H : Heap) (locs : List Loc) (ls : Array Slot), f_M_putOne_124 N (iM 73) (iM 77) (aM 7) (aM 8) (aM 9) (aM 10) (aM 23) (aM 24) (aM 26) (aM 27) (aM 72) (aM 74) (aM 75) (aM 76) v1 v3 s1 x_iM73 x_iM77 x_aM72 x_aM74 x_aM75 x_aM76 = some q → va_P (dC, dI) vwCl (zzM ad cy (us iM [(73, x_iM73), (77, x_iM77)]) (us aM [(72, x_aM72), (74, x_aM74), (75, x_aM75), (76, x_aM76)])) H → va_D A (zzM ad cy (us iM [(73, x_iM73), (77, x_iM77)]) (us aM [(72, x_aM72), (74, x_aM74), (75, x_aM75), (76, x_aM76)])) → va_S A s.heap H locs → lv_has ls 5 [(0, .ref (ad 0)), (1, .int v1), (3, .int v3)] → W p l e ({ frames := 2, cells := 0, slots := 0, locals := 44 } : Room) s m args below meth c H locs 0 0 QQ (F0 m 124 ls [.int s1, .ref (ad 0)]) := by
    intro v1 v3 s1 x_iM73 x_iM77 x_aM72 x_aM74 x_aM75 x_aM76 H locs ls h hP hD hS hl
    unfold f_M_putOne_124 at h
    obtain ⟨q124, e124, h⟩ := g_b h
    refine callVvs (cc := cX8_putOne) (w1 := zzM ad cy (us iM [(73, q124.1), (77, x_iM77)]) (us aM [(72, q124.2), (74, x_aM74), (75, x_aM75), (76, x_aM76)])) (As := [.int s1]) (rest := []) ⟨hx, hb, hml, hown, hts⟩ (c_M_putWord l dC dI cy ad H.size N s1 ((us iM [(73, x_iM73), (77, x_iM77)])) ((us aM [(72, x_aM72), (74, x_aM74), (75, x_aM75), (76, x_aM76)])) q124 e124) (cwV 1 hts (goodV m_ml_X8_449 m_im_X8_putWord m_se_X8_putWord m_in_X8 m_cd_X8_putWord) rfl rfl rfl (by decide +kernel) ⟨Nat.le_of_ble_eq_true rfl, Nat.le_of_ble_eq_true rfl⟩) hN hK hP hD hS hA rfl 0 rfl rfl rfl hl.1 rfl (Nat.le_of_ble_eq_true rfl) dX8_putOne_124 ⟨Nat.zero_le _, Nat.zero_le _⟩ (fun H locs hP hD hS => ?_)
    refine lv_aload_n hx hb dX8_putOne_127 rfl (lv_at hl 0 rfl) ?_
    refine lv_bipush (v := 32) hx hb dX8_putOne_128 (by decide) ?_
    obtain ⟨q130, e130, h⟩ := g_b h
    refine callVvs (cc := cX8_putOne) (w1 := zzM ad cy (us iM [(73, q130.1), (77, x_iM77)]) (us aM [(72, q130.2), (74, x_aM74), (75, x_aM75), (76, x_aM76)])) (As := [.int ((32 : Int32))]) (rest := []) ⟨hx, hb, hml, hown, hts⟩ (c_M_put l dC dI cy ad H.size ((32 : Int32)) ((us iM [(73, q124.1), (77, x_iM77)])) ((us aM [(72, q124.2), (74, x_aM74), (75, x_aM75), (76, x_aM76)])) q130 e130) (cwV 1 hts (goodV m_ml_X8_441 m_im_X8_put m_se_X8_put m_in_X8 m_cd_X8_put) rfl rfl rfl (by decide +kernel) ⟨Nat.le_of_ble_eq_true rfl, Nat.le_of_ble_eq_true rfl⟩) hN hK hP hD hS hA rfl 0 rfl rfl rfl hl.1 rfl (Nat.le_of_ble_eq_true rfl) dX8_putOne_130 ⟨Nat.zero_le _, Nat.zero_le _⟩ (fun H locs hP hD hS => ?_)
    refine lv_iload_n hx hb dX8_putOne_133 rfl (lv_at hl 2 rfl) ?_
    refine lv_iconst (v := 3) hx hb dX8_putOne_134 (by decide) ?_
    refine lv_icmp_eq (tgt := 154) hx hb dX8_putOne_135 (by decide) (fun cz => ?_) (fun cz => ?_)
    · have h := g_t h cz
      exact B154 v1 q130.1 x_iM77 q130.2 x_aM74 x_aM75 x_aM76 H locs ls h hP hD hS (lv_sub hl [0, 1] rfl)
    · have h := g_f h cz
      refine lv_aload_n hx hb dX8_putOne_138 rfl (lv_at hl 0 rfl) ?_
      refine lv_aload_n hx hb dX8_putOne_139 rfl (lv_at hl 0 rfl) ?_
      refine va_get (D := (dC, dI)) (ci := 8) (v := .ref (ad 4)) (C := RX8) (T := TX8) (N := 78) hx hb hts ki8 hown hK hP 0 rfl rfl 9 (by decide) kf21 (fun _ h9 => h9) rfl dX8_putOne_140 ?_
      refine lv_iload_n hx hb dX8_putOne_143 rfl (lv_at hl 1 rfl) ?_
      obtain ⟨g_62, h⟩ := g_n h
      refine va_iald (f := (aM 9)) hx hb hK hP 4 0 rfl rfl g_62 dX8_putOne_144 ?_
      obtain ⟨q145, e145, h⟩ := g_b h
      refine callVvs (cc := cX8_putOne) (w1 := zzM ad cy (us iM [(73, q145.1), (77, x_iM77)]) (us aM [(72, q145.2), (74, x_aM74), (75, x_aM75), (76, x_aM76)])) (As := [.int (((aM 9) v1.toNatClampNeg))]) (rest := []) ⟨hx, hb, hml, hown, hts⟩ (c_M_putRole l dC dI cy ad H.size N (((aM 9) v1.toNatClampNeg)) ((us iM [(73, q130.1), (77, x_iM77)])) ((us aM [(72, q130.2), (74, x_aM74), (75, x_aM75), (76, x_aM76)])) q145 e145) (cwV 1 hts (goodV m_ml_X8_452 m_im_X8_putRole m_se_X8_putRole m_in_X8 m_cd_X8_putRole) rfl rfl rfl (by decide +kernel) ⟨Nat.le_of_ble_eq_true rfl, Nat.le_of_ble_eq_true rfl⟩) hN hK hP hD hS hA rfl 0 rfl rfl rfl hl.1 rfl (Nat.le_of_ble_eq_true rfl) dX8_putOne_145 ⟨Nat.zero_le _, Nat.zero_le _⟩ (fun H locs hP hD hS => ?_)
      refine lv_aload_n hx hb dX8_putOne_148 rfl (lv_at hl 0 rfl) ?_
      refine lv_bipush (v := 32) hx hb dX8_putOne_149 (by decide) ?_
      obtain ⟨q151, e151, h⟩ := g_b h
      refine callVvs (cc := cX8_putOne) (w1 := zzM ad cy (us iM [(73, q151.1), (77, x_iM77)]) (us aM [(72, q151.2), (74, x_aM74), (75, x_aM75), (76, x_aM76)])) (As := [.int ((32 : Int32))]) (rest := []) ⟨hx, hb, hml, hown, hts⟩ (c_M_put l dC dI cy ad H.size ((32 : Int32)) ((us iM [(73, q145.1), (77, x_iM77)])) ((us aM [(72, q145.2), (74, x_aM74), (75, x_aM75), (76, x_aM76)])) q151 e151) (cwV 1 hts (goodV m_ml_X8_441 m_im_X8_put m_se_X8_put m_in_X8 m_cd_X8_put) rfl rfl rfl (by decide +kernel) ⟨Nat.le_of_ble_eq_true rfl, Nat.le_of_ble_eq_true rfl⟩) hN hK hP hD hS hA rfl 0 rfl rfl rfl hl.1 rfl (Nat.le_of_ble_eq_true rfl) dX8_putOne_151 ⟨Nat.zero_le _, Nat.zero_le _⟩ (fun H locs hP hD hS => ?_)
      exact B154 v1 q151.1 x_iM77 q151.2 x_aM74 x_aM75 x_aM76 H locs ls h hP hD hS (lv_sub hl [0, 1] rfl)
  have B205 : ∀ (v1 : Int32) (v4 : Int32) (s1 : Int32) (s2 : Int32) (x_iM73 : Int32) (x_iM77 : Int32) (x_aM72 : Nat → Int32) (x_aM74 : Nat → Int32) (x_aM75 : Nat → Int32) (x_aM76 : Nat → Int32) (H : Heap) (locs : List Loc) (ls : Array Slot), f_M_putOne_205 N (iM 73) (iM 77) (aM 7) (aM 8) (aM 9) (aM 10) (aM 23) (aM 24) (aM 26) (aM 27) (aM 72) (aM 74) (aM 75) (aM 76) v1 v4 s1 s2 x_iM73 x_iM77 x_aM72 x_aM74 x_aM75 x_aM76 = some q → va_P (dC, dI) vwCl (zzM ad cy (us iM [(73, x_iM73), (77, x_iM77)]) (us aM [(72, x_aM72), (74, x_aM74), (75, x_aM75), (76, x_aM76)])) H → va_D A (zzM ad cy (us iM [(73, x_iM73), (77, x_iM77)]) (us aM [(72, x_aM72), (74, x_aM74), (75, x_aM75), (76, x_aM76)])) → va_S A s.heap H locs → lv_has ls 5 [(0, .ref (ad 0)), (1, .int v1), (4, .int v4)] → W p l e ({ frames := 2, cells := 0, slots := 0, locals := 44 } : Room) s m args below meth c H locs 0 0 QQ (F0 m 205 ls [.int s2, .int s1, .ref (ad 0)]) := by
    intro v1 v4 s1 s2 x_iM73 x_iM77 x_aM72 x_aM74 x_aM75 x_aM76 H locs ls h hP hD hS hl
    unfold f_M_putOne_205 at h
    refine lv_iconst (v := 0) hx hb dX8_putOne_205 (by decide) ?_
    obtain ⟨q206, e206, h⟩ := g_b h
    refine callVvs (cc := cX8_putOne) (w1 := zzM ad cy (us iM [(73, x_iM73), (77, q206.1)]) (us aM [(72, x_aM72), (74, q206.2.1), (75, q206.2.2.1), (76, q206.2.2.2)])) (As := [.int s1, .int s2, .int ((0 : Int32))]) (rest := []) ⟨hx, hb, hml, hown, hts⟩ (c_M_later l dC dI cy ad H.size s1 s2 ((0 : Int32)) ((us iM [(73, x_iM73), (77, x_iM77)])) ((us aM [(72, x_aM72), (74, x_aM74), (75, x_aM75), (76, x_aM76)])) q206 e206) (cwV 3 hts (goodV m_ml_X8_443 m_im_X8_later m_se_X8_later m_in_X8 m_cd_X8_later) rfl rfl rfl (by decide +kernel) ⟨Nat.le_of_ble_eq_true rfl, Nat.le_of_ble_eq_true rfl⟩) hN hK hP hD hS hA rfl 0 rfl rfl rfl hl.1 rfl (Nat.le_of_ble_eq_true rfl) dX8_putOne_206 ⟨Nat.zero_le _, Nat.zero_le _⟩ (fun H locs hP hD hS => ?_)
    refine lv_aload_n hx hb dX8_putOne_209 rfl (lv_at hl 0 rfl) ?_
    refine lv_iconst (v := 1) hx hb dX8_putOne_210 (by decide) ?_
    refine lv_bipush (v := 32) hx hb dX8_putOne_211 (by decide) ?_
    refine lv_iconst (v := 0) hx hb dX8_putOne_213 (by decide) ?_
    obtain ⟨q214, e214, h⟩ := g_b h
    refine callVvs (cc := cX8_putOne) (w1 := zzM ad cy (us iM [(73, x_iM73), (77, q214.1)]) (us aM [(72, x_aM72), (74, q214.2.1), (75, q214.2.2.1), (76, q214.2.2.2)])) (As := [.int ((1 : Int32)), .int ((32 : Int32)), .int ((0 : Int32))]) (rest := []) ⟨hx, hb, hml, hown, hts⟩ (c_M_later l dC dI cy ad H.size ((1 : Int32)) ((32 : Int32)) ((0 : Int32)) ((us iM [(73, x_iM73), (77, q206.1)])) ((us aM [(72, x_aM72), (74, q206.2.1), (75, q206.2.2.1), (76, q206.2.2.2)])) q214 e214) (cwV 3 hts (goodV m_ml_X8_443 m_im_X8_later m_se_X8_later m_in_X8 m_cd_X8_later) rfl rfl rfl (by decide +kernel) ⟨Nat.le_of_ble_eq_true rfl, Nat.le_of_ble_eq_true rfl⟩) hN hK hP hD hS hA rfl 0 rfl rfl rfl hl.1 rfl (Nat.le_of_ble_eq_true rfl) dX8_putOne_214 ⟨Nat.zero_le _, Nat.zero_le _⟩ (fun H locs hP hD hS => ?_)
    refine lv_aload_n hx hb dX8_putOne_217 rfl (lv_at hl 0 rfl) ?_
    refine lv_iconst (v := 0) hx hb dX8_putOne_218 (by decide) ?_
    refine lv_aload_n hx hb dX8_putOne_219 rfl (lv_at hl 0 rfl) ?_
    refine va_get (D := (dC, dI)) (ci := 8) (v := .ref (ad 4)) (C := RX8) (T := TX8) (N := 78) hx hb hts ki8 hown hK hP 0 rfl rfl 9 (by decide) kf21 (fun _ h9 => h9) rfl dX8_putOne_220 ?_
    refine lv_iload_n hx hb dX8_putOne_223 rfl (lv_at hl 1 rfl) ?_
    obtain ⟨g_62, h⟩ := g_n h
    refine va_iald (f := (aM 9)) hx hb hK hP 4 0 rfl rfl g_62 dX8_putOne_224 ?_
    refine lv_iload hx hb dX8_putOne_225 (lv_at hl 2 rfl) ?_
    obtain ⟨q227, e227, h⟩ := g_b h
    refine callVvs (cc := cX8_putOne) (w1 := zzM ad cy (us iM [(73, x_iM73), (77, q227.1)]) (us aM [(72, x_aM72), (74, q227.2.1), (75, q227.2.2.1), (76, q227.2.2.2)])) (As := [.int ((0 : Int32)), .int (((aM 9) v1.toNatClampNeg)), .int v4]) (rest := []) ⟨hx, hb, hml, hown, hts⟩ (c_M_later l dC dI cy ad H.size ((0 : Int32)) (((aM 9) v1.toNatClampNeg)) v4 ((us iM [(73, x_iM73), (77, q214.1)])) ((us aM [(72, x_aM72), (74, q214.2.1), (75, q214.2.2.1), (76, q214.2.2.2)])) q227 e227) (cwV 3 hts (goodV m_ml_X8_443 m_im_X8_later m_se_X8_later m_in_X8 m_cd_X8_later) rfl rfl rfl (by decide +kernel) ⟨Nat.le_of_ble_eq_true rfl, Nat.le_of_ble_eq_true rfl⟩) hN hK hP hD hS hA rfl 0 rfl rfl rfl hl.1 rfl (Nat.le_of_ble_eq_true rfl) dX8_putOne_227 ⟨Nat.zero_le _, Nat.zero_le _⟩ (fun H locs hP hD hS => ?_)
    have h' := Option.some.inj h
    rw [← hQQ]
    exact W.vret hx hb hr (fun t ht hW => ⟨⟨(), rfl, trivial, by rw [← hWQ, ← h', ht]; exact hP, va_K.moved hW.alike hK⟩, hS.F ht⟩) hS.2.2 dX8_putOne_230
  have B50 : ∀ (v1 : Int32) (v3 : Int32) (v4 : Int32) (x_iM73 : Int32) (x_iM77 : Int32) (x_aM72 : Nat → Int32) (x_aM74 : Nat → Int32) (x_aM75 : Nat → Int32) (x_aM76 : Nat → Int32) (H : Heap) (locs : List Loc) (ls : Array Slot), f_M_putOne_50 N (iM 73) (iM 77) (aM 7) (aM 8) (aM 9) (aM 10) (aM 23) (aM 24) (aM 26) (aM 27) (aM 72) (aM 74) (aM 75) (aM 76) v1 v3 v4 x_iM73 x_iM77 x_aM72 x_aM74 x_aM75 x_aM76 = some q → va_P (dC, dI) vwCl (zzM ad cy (us iM [(73, x_iM73), (77, x_iM77)]) (us aM [(72, x_aM72), (74, x_aM74), (75, x_aM75), (76, x_aM76)])) H → va_D A (zzM ad cy (us iM [(73, x_iM73), (77, x_iM77)]) (us aM [(72, x_aM72), (74, x_aM74), (75, x_aM75), (76, x_aM76)])) → va_S A s.heap H locs → lv_has ls 5 [(0, .ref (ad 0)), (1, .int v1), (3, .int v3), (4, .int v4)] → W p l e ({ frames := 2, cells := 0, slots := 0, locals := 44 } : Room) s m args below meth c H locs 0 0 QQ (F0 m 50 ls []) := by
    intro v1 v3 v4 x_iM73 x_iM77 x_aM72 x_aM74 x_aM75 x_aM76 H locs ls h hP hD hS hl
    unfold f_M_putOne_50 at h
    refine lv_iload_n hx hb dX8_putOne_50 rfl (lv_at hl 2 rfl) ?_
    refine lv_if_ne (tgt := 67) hx hb dX8_putOne_51 (by decide) (fun cz => ?_) (fun cz => ?_)
    · have h := g_f h cz
      refine lv_iload_n hx hb dX8_putOne_67 rfl (lv_at hl 2 rfl) ?_
      refine lv_iconst (v := 1) hx hb dX8_putOne_68 (by decide) ?_
      refine lv_icmp_eq (tgt := 77) hx hb dX8_putOne_69 (by decide) (fun cz => ?_) (fun cz => ?_)
      · have h := g_t h cz
        exact B77 v3 x_iM73 x_iM77 x_aM72 x_aM74 x_aM75 x_aM76 H locs ls h hP hD hS (lv_sub hl [0, 2] rfl)
      · have h := g_f h cz
        refine lv_iload_n hx hb dX8_putOne_72 rfl (lv_at hl 2 rfl) ?_
        refine lv_iconst (v := 2) hx hb dX8_putOne_73 (by decide) ?_
        refine lv_icmp_ne (tgt := 96) hx hb dX8_putOne_74 (by decide) (fun cz => ?_) (fun cz => ?_)
        · have h := g_f h cz
          refine lv_iload_n hx hb dX8_putOne_96 rfl (lv_at hl 2 rfl) ?_
          refine lv_bipush (v := 6) hx hb dX8_putOne_97 (by decide) ?_
          refine lv_icmp_ge (tgt := 169) hx hb dX8_putOne_99 (by decide) (fun cz => ?_) (fun cz => ?_)
          · have h := g_t h cz
            refine lv_aload_n hx hb dX8_putOne_169 rfl (lv_at hl 0 rfl) ?_
            refine lv_iconst (v := 0) hx hb dX8_putOne_170 (by decide) ?_
            refine lv_aload_n hx hb dX8_putOne_171 rfl (lv_at hl 0 rfl) ?_
            refine va_get (D := (dC, dI)) (ci := 8) (v := .ref (ad 5)) (C := RX8) (T := TX8) (N := 78) hx hb hts ki8 hown hK hP 0 rfl rfl 10 (by decide) kf24 (fun _ h9 => h9) rfl dX8_putOne_172 ?_
            refine lv_iload_n hx hb dX8_putOne_175 rfl (lv_at hl 1 rfl) ?_
            obtain ⟨g_62, h⟩ := g_n h
            refine va_iald (f := (aM 10)) hx hb hK hP 5 0 rfl rfl g_62 dX8_putOne_176 ?_
            refine lv_iload hx hb dX8_putOne_177 (lv_at hl 3 rfl) ?_
            refine lv_iconst (v := 1) hx hb dX8_putOne_179 (by decide) ?_
            refine lv_iadd hx hb dX8_putOne_180 ?_
            obtain ⟨q181, e181, h⟩ := g_b h
            refine callVvs (cc := cX8_putOne) (w1 := zzM ad cy (us iM [(73, x_iM73), (77, q181.1)]) (us aM [(72, x_aM72), (74, q181.2.1), (75, q181.2.2.1), (76, q181.2.2.2)])) (As := [.int ((0 : Int32)), .int (((aM 10) v1.toNatClampNeg)), .int ((v4 + (1 : Int32)))]) (rest := []) ⟨hx, hb, hml, hown, hts⟩ (c_M_later l dC dI cy ad H.size ((0 : Int32)) (((aM 10) v1.toNatClampNeg)) ((v4 + (1 : Int32))) ((us iM [(73, x_iM73), (77, x_iM77)])) ((us aM [(72, x_aM72), (74, x_aM74), (75, x_aM75), (76, x_aM76)])) q181 e181) (cwV 3 hts (goodV m_ml_X8_443 m_im_X8_later m_se_X8_later m_in_X8 m_cd_X8_later) rfl rfl rfl (by decide +kernel) ⟨Nat.le_of_ble_eq_true rfl, Nat.le_of_ble_eq_true rfl⟩) hN hK hP hD hS hA rfl 0 rfl rfl rfl hl.1 rfl (Nat.le_of_ble_eq_true rfl) dX8_putOne_181 ⟨Nat.zero_le _, Nat.zero_le _⟩ (fun H locs hP hD hS => ?_)
            refine lv_aload_n hx hb dX8_putOne_184 rfl (lv_at hl 0 rfl) ?_
            refine lv_iconst (v := 1) hx hb dX8_putOne_185 (by decide) ?_
            refine lv_bipush (v := 32) hx hb dX8_putOne_186 (by decide) ?_
            refine lv_iconst (v := 0) hx hb dX8_putOne_188 (by decide) ?_
            obtain ⟨q189, e189, h⟩ := g_b h
            refine callVvs (cc := cX8_putOne) (w1 := zzM ad cy (us iM [(73, x_iM73), (77, q189.1)]) (us aM [(72, x_aM72), (74, q189.2.1), (75, q189.2.2.1), (76, q189.2.2.2)])) (As := [.int ((1 : Int32)), .int ((32 : Int32)), .int ((0 : Int32))]) (rest := []) ⟨hx, hb, hml, hown, hts⟩ (c_M_later l dC dI cy ad H.size ((1 : Int32)) ((32 : Int32)) ((0 : Int32)) ((us iM [(73, x_iM73), (77, q181.1)])) ((us aM [(72, x_aM72), (74, q181.2.1), (75, q181.2.2.1), (76, q181.2.2.2)])) q189 e189) (cwV 3 hts (goodV m_ml_X8_443 m_im_X8_later m_se_X8_later m_in_X8 m_cd_X8_later) rfl rfl rfl (by decide +kernel) ⟨Nat.le_of_ble_eq_true rfl, Nat.le_of_ble_eq_true rfl⟩) hN hK hP hD hS hA rfl 0 rfl rfl rfl hl.1 rfl (Nat.le_of_ble_eq_true rfl) dX8_putOne_189 ⟨Nat.zero_le _, Nat.zero_le _⟩ (fun H locs hP hD hS => ?_)
            refine lv_aload_n hx hb dX8_putOne_192 rfl (lv_at hl 0 rfl) ?_
            refine lv_iconst (v := 2) hx hb dX8_putOne_193 (by decide) ?_
            refine lv_iload_n hx hb dX8_putOne_194 rfl (lv_at hl 2 rfl) ?_
            refine lv_bipush (v := 6) hx hb dX8_putOne_195 (by decide) ?_
            refine lv_icmp_ne (tgt := 204) hx hb dX8_putOne_197 (by decide) (fun cz => ?_) (fun cz => ?_)
            · have h := g_f h cz
              refine lv_iconst (v := 3) hx hb dX8_putOne_204 (by decide) ?_
              exact B205 v1 v4 ((2 : Int32)) ((3 : Int32)) x_iM73 q189.1 x_aM72 q189.2.1 q189.2.2.1 q189.2.2.2 H locs ls h hP hD hS (lv_sub hl [0, 1, 3] rfl)
            · have h := g_t h cz
              refine lv_iconst (v := 4) hx hb dX8_putOne_200 (by decide) ?_
              refine lv_goto (tgt := 205) hx hb dX8_putOne_201 (by decide) ?_
              exact B205 v1 v4 ((2 : Int32)) ((4 : Int32)) x_iM73 q189.1 x_aM72 q189.2.1 q189.2.2.1 q189.2.2.2 H locs ls h hP hD hS (lv_sub hl [0, 1, 3] rfl)
          · have h := g_f h cz
            refine lv_aload_n hx hb dX8_putOne_102 rfl (lv_at hl 0 rfl) ?_
            refine lv_iload_n hx hb dX8_putOne_103 rfl (lv_at hl 2 rfl) ?_
            refine lv_iconst (v := 3) hx hb dX8_putOne_104 (by decide) ?_
            refine lv_icmp_ne (tgt := 112) hx hb dX8_putOne_105 (by decide) (fun cz => ?_) (fun cz => ?_)
            · have h := g_f h cz
              refine lv_iload_n hx hb dX8_putOne_112 rfl (lv_at hl 2 rfl) ?_
              refine lv_iconst (v := 4) hx hb dX8_putOne_113 (by decide) ?_
              refine lv_icmp_ne (tgt := 122) hx hb dX8_putOne_114 (by decide) (fun cz => ?_) (fun cz => ?_)
              · have h := g_f h cz
                refine lv_bipush (v := 7) hx hb dX8_putOne_122 (by decide) ?_
                exact B124 v1 v3 ((7 : Int32)) x_iM73 x_iM77 x_aM72 x_aM74 x_aM75 x_aM76 H locs ls h hP hD hS (lv_sub hl [0, 1, 2] rfl)
              · have h := g_t h cz
                refine lv_bipush (v := 6) hx hb dX8_putOne_117 (by decide) ?_
                refine lv_goto (tgt := 124) hx hb dX8_putOne_119 (by decide) ?_
                exact B124 v1 v3 ((6 : Int32)) x_iM73 x_iM77 x_aM72 x_aM74 x_aM75 x_aM76 H locs ls h hP hD hS (lv_sub hl [0, 1, 2] rfl)
            · have h := g_t h cz
              refine lv_iconst (v := 5) hx hb dX8_putOne_108 (by decide) ?_
              refine lv_goto (tgt := 124) hx hb dX8_putOne_109 (by decide) ?_
              exact B124 v1 v3 ((5 : Int32)) x_iM73 x_iM77 x_aM72 x_aM74 x_aM75 x_aM76 H locs ls h hP hD hS (lv_sub hl [0, 1, 2] rfl)
        · have h := g_t h cz
          exact B77 v3 x_iM73 x_iM77 x_aM72 x_aM74 x_aM75 x_aM76 H locs ls h hP hD hS (lv_sub hl [0, 2] rfl)
    · have h := g_t h cz
      refine lv_aload_n hx hb dX8_putOne_54 rfl (lv_at hl 0 rfl) ?_
      refine lv_aload_n hx hb dX8_putOne_55 rfl (lv_at hl 0 rfl) ?_
      refine va_get (D := (dC, dI)) (ci := 8) (v := .ref (ad 4)) (C := RX8) (T := TX8) (N := 78) hx hb hts ki8 hown hK hP 0 rfl rfl 9 (by decide) kf21 (fun _ h9 => h9) rfl dX8_putOne_56 ?_
      refine lv_iload_n hx hb dX8_putOne_59 rfl (lv_at hl 1 rfl) ?_
      obtain ⟨g_62, h⟩ := g_n h
      refine va_iald (f := (aM 9)) hx hb hK hP 4 0 rfl rfl g_62 dX8_putOne_60 ?_
      obtain ⟨q61, e61, h⟩ := g_b h
      refine callVvs (cc := cX8_putOne) (w1 := zzM ad cy (us iM [(73, q61.1), (77, x_iM77)]) (us aM [(72, q61.2), (74, x_aM74), (75, x_aM75), (76, x_aM76)])) (As := [.int (((aM 9) v1.toNatClampNeg))]) (rest := []) ⟨hx, hb, hml, hown, hts⟩ (c_M_putName l dC dI cy ad H.size N (((aM 9) v1.toNatClampNeg)) ((us iM [(73, x_iM73), (77, x_iM77)])) ((us aM [(72, x_aM72), (74, x_aM74), (75, x_aM75), (76, x_aM76)])) q61 e61) (cwV 1 hts (goodV m_ml_X8_446 m_im_X8_putName m_se_X8_putName m_in_X8 m_cd_X8_putName) rfl rfl rfl (by decide +kernel) ⟨Nat.le_of_ble_eq_true rfl, Nat.le_of_ble_eq_true rfl⟩) hN hK hP hD hS hA rfl 0 rfl rfl rfl hl.1 rfl (Nat.le_of_ble_eq_true rfl) dX8_putOne_61 ⟨Nat.zero_le _, Nat.zero_le _⟩ (fun H locs hP hD hS => ?_)
      refine lv_goto (tgt := 230) hx hb dX8_putOne_64 (by decide) ?_
      have h' := Option.some.inj h
      rw [← hQQ]
      exact W.vret hx hb hr (fun t ht hW => ⟨⟨(), rfl, trivial, by rw [← hWQ, ← h', ht]; exact hP, va_K.moved hW.alike hK⟩, hS.F ht⟩) hS.2.2 dX8_putOne_230
  have B28 : ∀ (v1 : Int32) (v2 : Int32) (v3 : Int32) (s0 : Int32) (H : Heap) (locs : List Loc) (ls : Array Slot), f_M_putOne_28 N (iM 73) (iM 77) (aM 7) (aM 8) (aM 9) (aM 10) (aM 23) (aM 24) (aM 26) (aM 27) (aM 72) (aM 74) (aM 75) (aM 76) v1 v2 v3 s0 = some q → va_P (dC, dI) vwCl (zzM ad cy iM aM) H → va_D A (zzM ad cy iM aM) → va_S A s.heap H locs → lv_has ls 5 [(0, .ref (ad 0)), (1, .int v1), (2, .int v2), (3, .int v3)] → W p l e ({ frames := 2, cells := 0, slots := 0, locals := 44 } : Room) s m args below meth c H locs 0 0 QQ (F0 m 28 ls [.int s0]) := by
    intro v1 v2 v3 s0 H locs ls h hP hD hS hl
    unfold f_M_putOne_28 at h
    refine lv_istore (lv' := [(4, .int s0), (0, .ref (ad 0)), (1, .int v1), (2, .int v2), (3, .int v3)]) hx hb dX8_putOne_28 hl (by decide) rfl (fun ls hl => ?_)
    refine lv_iload hx hb dX8_putOne_30 (lv_at hl 0 rfl) ?_
    refine lv_iload_n hx hb dX8_putOne_32 rfl (lv_at hl 3 rfl) ?_
    refine lv_icmp_ge (tgt := 50) hx hb dX8_putOne_33 (by decide) (fun cz => ?_) (fun cz => ?_)
    · have h := g_t h cz
      exact B50 v1 v3 s0 (iM 73) (iM 77) (aM 72) (aM 74) (aM 75) (aM 76) H locs ls h hP hD hS (lv_sub hl [1, 2, 4, 0] rfl)
    · have h := g_f h cz
      refine lv_aload_n hx hb dX8_putOne_36 rfl (lv_at hl 1 rfl) ?_
      refine lv_bipush (v := 40) hx hb dX8_putOne_37 (by decide) ?_
      obtain ⟨q39, e39, h⟩ := g_b h
      refine callVvs (cc := cX8_putOne) (w1 := zzM ad cy (us iM [(73, q39.1)]) (us aM [(72, q39.2)])) (As := [.int ((40 : Int32))]) (rest := []) ⟨hx, hb, hml, hown, hts⟩ (c_M_put l dC dI cy ad H.size ((40 : Int32)) iM aM q39 e39) (cwV 1 hts (goodV m_ml_X8_441 m_im_X8_put m_se_X8_put m_in_X8 m_cd_X8_put) rfl rfl rfl (by decide +kernel) ⟨Nat.le_of_ble_eq_true rfl, Nat.le_of_ble_eq_true rfl⟩) hN hK hP hD hS hA rfl 0 rfl rfl rfl hl.1 rfl (Nat.le_of_ble_eq_true rfl) dX8_putOne_39 ⟨Nat.zero_le _, Nat.zero_le _⟩ (fun H locs hP hD hS => ?_)
      refine lv_aload_n hx hb dX8_putOne_42 rfl (lv_at hl 1 rfl) ?_
      refine lv_iconst (v := 1) hx hb dX8_putOne_43 (by decide) ?_
      refine lv_bipush (v := 41) hx hb dX8_putOne_44 (by decide) ?_
      refine lv_iconst (v := 0) hx hb dX8_putOne_46 (by decide) ?_
      obtain ⟨q47, e47, h⟩ := g_b h
      refine callVvs (cc := cX8_putOne) (w1 := zzM ad cy (us iM [(73, q39.1), (77, q47.1)]) (us aM [(72, q39.2), (74, q47.2.1), (75, q47.2.2.1), (76, q47.2.2.2)])) (As := [.int ((1 : Int32)), .int ((41 : Int32)), .int ((0 : Int32))]) (rest := []) ⟨hx, hb, hml, hown, hts⟩ (c_M_later l dC dI cy ad H.size ((1 : Int32)) ((41 : Int32)) ((0 : Int32)) ((us iM [(73, q39.1)])) ((us aM [(72, q39.2)])) q47 e47) (cwV 3 hts (goodV m_ml_X8_443 m_im_X8_later m_se_X8_later m_in_X8 m_cd_X8_later) rfl rfl rfl (by decide +kernel) ⟨Nat.le_of_ble_eq_true rfl, Nat.le_of_ble_eq_true rfl⟩) hN hK hP hD hS hA rfl 0 rfl rfl rfl hl.1 rfl (Nat.le_of_ble_eq_true rfl) dX8_putOne_47 ⟨Nat.zero_le _, Nat.zero_le _⟩ (fun H locs hP hD hS => ?_)
      exact B50 v1 v3 s0 q39.1 q47.1 q39.2 q47.2.1 q47.2.2.1 q47.2.2.2 H locs ls h hP hD hS (lv_sub hl [1, 2, 4, 0] rfl)
  intro H locs hP hD hS
  unfold f_M_putOne at h
  refine lv_aload_n hx hb dX8_putOne_0 rfl (lv_at hl 0 rfl) ?_
  refine va_get (D := (dC, dI)) (ci := 8) (v := .ref (ad 3)) (C := RX8) (T := TX8) (N := 78) hx hb hts ki8 hown hK hP 0 rfl rfl 8 (by decide) kf17 (fun _ h9 => h9) rfl dX8_putOne_1 ?_
  refine lv_iload_n hx hb dX8_putOne_4 rfl (lv_at hl 1 rfl) ?_
  obtain ⟨g_60, h⟩ := g_n h
  refine va_iald (f := (aM 8)) hx hb hK hP 3 0 rfl rfl g_60 dX8_putOne_5 ?_
  refine lv_istore_n (lv' := [(3, .int (((aM 8) a1.toNatClampNeg))), (0, .ref (ad 0)), (1, .int a1), (2, .int a2)]) hx hb dX8_putOne_6 rfl hl (by decide) rfl (fun ls hl => ?_)
  refine lv_iload_n hx hb dX8_putOne_7 rfl (lv_at hl 0 rfl) ?_
  refine lv_bipush (v := 7) hx hb dX8_putOne_8 (by decide) ?_
  refine lv_icmp_ne (tgt := 17) hx hb dX8_putOne_10 (by decide) (fun cz => ?_) (fun cz => ?_)
  · have h := g_f h cz
    refine lv_iload_n hx hb dX8_putOne_17 rfl (lv_at hl 0 rfl) ?_
    refine lv_bipush (v := 6) hx hb dX8_putOne_18 (by decide) ?_
    refine lv_icmp_ne (tgt := 27) hx hb dX8_putOne_20 (by decide) (fun cz => ?_) (fun cz => ?_)
    · have h := g_f h cz
      refine lv_iconst (v := 3) hx hb dX8_putOne_27 (by decide) ?_
      exact B28 a1 a2 (((aM 8) a1.toNatClampNeg)) ((3 : Int32)) H locs ls h hP hD hS (lv_sub hl [1, 2, 3, 0] rfl)
    · have h := g_t h cz
      refine lv_iconst (v := 2) hx hb dX8_putOne_23 (by decide) ?_
      refine lv_goto (tgt := 28) hx hb dX8_putOne_24 (by decide) ?_
      exact B28 a1 a2 (((aM 8) a1.toNatClampNeg)) ((2 : Int32)) H locs ls h hP hD hS (lv_sub hl [1, 2, 3, 0] rfl)
  · have h := g_t h cz
    refine lv_iconst (v := 1) hx hb dX8_putOne_13 (by decide) ?_
    refine lv_goto (tgt := 28) hx hb dX8_putOne_14 (by decide) ?_
    exact B28 a1 a2 (((aM 8) a1.toNatClampNeg)) ((1 : Int32)) H locs ls h hP hD hS (lv_sub hl [1, 2, 3, 0] rfl)
set_option maxHeartbeats 8000000 in
set_option maxRecDepth 100000 in
theorem c_M_putConcept (l : Launch) (dC : Nat → ClassId) (dI : Nat → Nat → Nat) (cy : Nat → ClassId) (ad : Nat → Nat) (sz : Nat) (N : Nat) (a1 : Int32) (iM : Nat → Int32) (aM : Nat → Nat → Int32) (q : Int32 × Int32 × (Nat → Int32) × (Nat → Int32) × (Nat → Int32) × (Nat → Int32)) (h : f_M_putConcept N a1 (iM 73) (iM 77) (aM 7) (aM 8) (aM 9) (aM 10) (aM 23) (aM 24) (aM 26) (aM 27) (aM 72) (aM 74) (aM 75) (aM 76) = some q) : Met l yX8_putConcept wsX8_putConcept ({ frames := 3, cells := 0, slots := 0, locals := 68 } : Room) (cP (dC, dI) cy [.ref (ad 0), .int a1] (zzM ad cy iM aM) sz) (cQv (dC, dI) cy (zzM ad cy (us iM [(73, q.1), (77, q.2.1)]) (us aM [(72, q.2.2.1), (74, q.2.2.2.1), (75, q.2.2.2.2.1), (76, q.2.2.2.2.2)])) (va_A (zzM ad cy iM aM) sz)) 0 0 (va_A (zzM ad cy iM aM) sz) := by
  refine Met.ofW (cc := cX8_putConcept) (maxL := 2) (ret := none) (by decide) rfl ?_
  intro p e s m args below meth c s₁ B hml hv
  obtain ⟨hav, hsz, hP, hK, hD0, hN⟩ := hv
  have hx := B.exec
  have hb := B.bytes
  have hr := B.returns
  have hts := atoms_spec (ws := wsX8_putConcept) B.pre
  have hown : s.vm.findClass RX8 = some m.cls := findClass_of_methodNamed B.named
  have hlocks := B.notSynchronized
  subst hsz
  have hD := hD0.self (sz := s.heap.size)
  generalize hAe : va_A (zzM ad cy iM aM) s.heap.size = A at hD ⊢
  have hA : ∀ q : Nat, s.heap.size ≤ q → A q := fun q h => by rw [← hAe]; exact Or.inr h
  have hS : va_S A s.heap s.heap [] := va_S.rf
  generalize hWQ : (zzM ad cy (us iM [(73, q.1), (77, q.2.1)]) (us aM [(72, q.2.2.1), (74, q.2.2.2.1), (75, q.2.2.2.2.1), (76, q.2.2.2.2.2)])) = WQ
  generalize hQQ : MQ below (cQv (dC, dI) cy WQ A) args s 0 0 A = QQ
  have hl := lv_entry ([.ref (ad 0), .int a1] : List Value) (n := 2) (Nat.le_of_ble_eq_true rfl)
  have hfr := lg_entry_eq m ([.ref (ad 0), .int a1] : List Value) 2
  rw [← hav] at hfr
  rw [hfr]
  clear hfr hav
  generalize (lg_sl ([.ref (ad 0), .int a1] : List Value) ++ List.replicate (2 - (lg_sl ([.ref (ad 0), .int a1] : List Value)).length) Slot.unset).toArray = ls at hl ⊢
  have hl : lv_has ls 2 [(0, .ref (ad 0)), (1, .int a1)] := hl
  have kf438 := hts _ (List.mem_cons_of_mem _ m_fl_X8_438)
  have ki8 := (fun w h => List.mem_cons_of_mem _ (i_X8 w h) : ∀ w ∈ u_ws RX8 TX8 78, w ∈ wsX8_putConcept)
  have kf138 := hts _ (List.mem_cons_of_mem _ m_fl_X8_138)
  have kf141 := hts _ (List.mem_cons_of_mem _ m_fl_X8_141)
  have kf144 := hts _ (List.mem_cons_of_mem _ m_fl_X8_144)
  refine (?_ : ∀ (H : Heap) (locs : List Loc), va_P (dC, dI) vwCl (zzM ad cy iM aM) H → va_D A (zzM ad cy iM aM) → va_S A s.heap H locs → W p l e ({ frames := 3, cells := 0, slots := 0, locals := 68 } : Room) s m args below meth c H locs 0 0 QQ (F0 m 0 ls [])) s.heap [] hP hD hS
  clear hP hD hS
  have B12 : ∀ (n : Nat) (x_iM73 : Int32) (x_iM77 : Int32) (x_aM72 : Nat → Int32) (x_aM74 : Nat → Int32) (x_aM75 : Nat → Int32) (x_aM76 : Nat → Int32) (H : Heap) (locs : List Loc) (ls : Array Slot), f_M_putConcept_12 N (iM 73) (iM 77) (aM 7) (aM 8) (aM 9) (aM 10) (aM 23) (aM 24) (aM 26) (aM 27) (aM 72) (aM 74) (aM 75) (aM 76) n x_iM73 x_iM77 x_aM72 x_aM74 x_aM75 x_aM76 = some q → va_P (dC, dI) vwCl (zzM ad cy (us iM [(73, x_iM73), (77, x_iM77)]) (us aM [(72, x_aM72), (74, x_aM74), (75, x_aM75), (76, x_aM76)])) H → va_D A (zzM ad cy (us iM [(73, x_iM73), (77, x_iM77)]) (us aM [(72, x_aM72), (74, x_aM74), (75, x_aM75), (76, x_aM76)])) → va_S A s.heap H locs → lv_has ls 2 [(0, .ref (ad 0))] → W p l e ({ frames := 3, cells := 0, slots := 0, locals := 68 } : Room) s m args below meth c H locs 0 0 QQ (F0 m 12 ls []) := by
    intro n
    induction n with
    | zero =>
      intro x_iM73 x_iM77 x_aM72 x_aM74 x_aM75 x_aM76 H locs ls h hP hD hS hl
      rw [f_M_putConcept_12] at h
      cases h
    | succ n ih =>
      intro x_iM73 x_iM77 x_aM72 x_aM74 x_aM75 x_aM76 H locs ls h hP hD hS hl
      rw [f_M_putConcept_12] at h
      refine lv_aload_n hx hb dX8_putConcept_12 rfl (lv_at hl 0 rfl) ?_
      refine va_get (D := (dC, dI)) (ci := 8) (v := .int x_iM77) (C := RX8) (T := TX8) (N := 78) hx hb hts ki8 hown hK hP 0 rfl rfl 77 (by decide) kf438 (fun _ h9 => h9) rfl dX8_putConcept_13 ?_
      refine lv_if_le (tgt := 111) hx hb dX8_putConcept_16 (by decide) (fun cz => ?_) (fun cz => ?_)
      · have h := g_t h cz
        have h' := Option.some.inj h
        rw [← hQQ]
        exact W.vret hx hb hr (fun t ht hW => ⟨⟨(), rfl, trivial, by rw [← hWQ, ← h', ht]; exact hP, va_K.moved hW.alike hK⟩, hS.F ht⟩) hS.2.2 dX8_putConcept_111
      · have h := g_f h cz
        refine lv_aload_n hx hb dX8_putConcept_19 rfl (lv_at hl 0 rfl) ?_
        refine lv_dup hx hb dX8_putConcept_20 rfl ?_
        refine va_get (D := (dC, dI)) (ci := 8) (v := .int x_iM77) (C := RX8) (T := TX8) (N := 78) hx hb hts ki8 hown hK hP 0 rfl rfl 77 (by decide) kf438 (fun _ h9 => h9) rfl dX8_putConcept_21 ?_
        refine lv_iconst (v := 1) hx hb dX8_putConcept_24 (by decide) ?_
        refine lv_isub hx hb dX8_putConcept_25 ?_
        refine va_put (D := (dC, dI)) (ci := 8) (v := .int ((x_iM77 - (1 : Int32)))) (ty := .int) (C := RX8) (T := TX8) (N := 78) hx hb hts ki8 tyX8 tyX8_ok nmX8 hown hK hP hD hS 0 rfl rfl 77 (by decide) kf438 (fun _ h9 => h9) rfl (by decide +kernel) rfl rfl (Nat.le_of_ble_eq_true rfl) dX8_putConcept_26 (fun H locs hP hD hS => ?_)
        have hP : va_P (dC, dI) vwCl (zzM ad cy (us iM [(73, x_iM73), (77, (x_iM77 - (1 : Int32)))]) (us aM [(72, x_aM72), (74, x_aM74), (75, x_aM75), (76, x_aM76)])) H := Eq.mp (congrArg (fun w => va_P (dC, dI) vwCl w H) (stM_iM77 ad cy iM (us aM [(72, x_aM72), (74, x_aM74), (75, x_aM75), (76, x_aM76)]) [(73, x_iM73), (77, x_iM77)] ((x_iM77 - (1 : Int32))))) hP
        have hD : va_D A (zzM ad cy (us iM [(73, x_iM73), (77, (x_iM77 - (1 : Int32)))]) (us aM [(72, x_aM72), (74, x_aM74), (75, x_aM75), (76, x_aM76)])) := Eq.mp (congrArg (fun w => va_D A w) (stM_iM77 ad cy iM (us aM [(72, x_aM72), (74, x_aM74), (75, x_aM75), (76, x_aM76)]) [(73, x_iM73), (77, x_iM77)] ((x_iM77 - (1 : Int32))))) hD
        refine lv_aload_n hx hb dX8_putConcept_29 rfl (lv_at hl 0 rfl) ?_
        refine va_get (D := (dC, dI)) (ci := 8) (v := .ref (ad 41)) (C := RX8) (T := TX8) (N := 78) hx hb hts ki8 hown hK hP 0 rfl rfl 74 (by decide) kf138 (fun _ h9 => h9) rfl dX8_putConcept_30 ?_
        refine lv_aload_n hx hb dX8_putConcept_33 rfl (lv_at hl 0 rfl) ?_
        refine va_get (D := (dC, dI)) (ci := 8) (v := .int ((x_iM77 - (1 : Int32)))) (C := RX8) (T := TX8) (N := 78) hx hb hts ki8 hown hK hP 0 rfl rfl 77 (by decide) kf438 (fun _ h9 => h9) rfl dX8_putConcept_34 ?_
        obtain ⟨g_145, h⟩ := g_n h
        refine va_iald (f := x_aM74) hx hb hK hP 41 0 rfl rfl g_145 dX8_putConcept_37 ?_
        refine lv_if_ne (tgt := 66) hx hb dX8_putConcept_38 (by decide) (fun cz => ?_) (fun cz => ?_)
        · have h := g_f h cz
          refine lv_aload_n hx hb dX8_putConcept_66 rfl (lv_at hl 0 rfl) ?_
          refine va_get (D := (dC, dI)) (ci := 8) (v := .ref (ad 41)) (C := RX8) (T := TX8) (N := 78) hx hb hts ki8 hown hK hP 0 rfl rfl 74 (by decide) kf138 (fun _ h9 => h9) rfl dX8_putConcept_67 ?_
          refine lv_aload_n hx hb dX8_putConcept_70 rfl (lv_at hl 0 rfl) ?_
          refine va_get (D := (dC, dI)) (ci := 8) (v := .int ((x_iM77 - (1 : Int32)))) (C := RX8) (T := TX8) (N := 78) hx hb hts ki8 hown hK hP 0 rfl rfl 77 (by decide) kf438 (fun _ h9 => h9) rfl dX8_putConcept_71 ?_
          refine va_iald (f := x_aM74) hx hb hK hP 41 0 rfl rfl g_145 dX8_putConcept_74 ?_
          refine lv_iconst (v := 1) hx hb dX8_putConcept_75 (by decide) ?_
          refine lv_icmp_ne (tgt := 95) hx hb dX8_putConcept_76 (by decide) (fun cz => ?_) (fun cz => ?_)
          · have h := g_f h cz
            refine lv_aload_n hx hb dX8_putConcept_95 rfl (lv_at hl 0 rfl) ?_
            refine lv_aload_n hx hb dX8_putConcept_96 rfl (lv_at hl 0 rfl) ?_
            refine va_get (D := (dC, dI)) (ci := 8) (v := .ref (ad 42)) (C := RX8) (T := TX8) (N := 78) hx hb hts ki8 hown hK hP 0 rfl rfl 75 (by decide) kf141 (fun _ h9 => h9) rfl dX8_putConcept_97 ?_
            refine lv_aload_n hx hb dX8_putConcept_100 rfl (lv_at hl 0 rfl) ?_
            refine va_get (D := (dC, dI)) (ci := 8) (v := .int ((x_iM77 - (1 : Int32)))) (C := RX8) (T := TX8) (N := 78) hx hb hts ki8 hown hK hP 0 rfl rfl 77 (by decide) kf438 (fun _ h9 => h9) rfl dX8_putConcept_101 ?_
            refine va_iald (f := x_aM75) hx hb hK hP 42 0 rfl rfl g_145 dX8_putConcept_104 ?_
            obtain ⟨q105, e105, h⟩ := g_b h
            refine callVvs (cc := cX8_putConcept) (w1 := zzM ad cy (us iM [(73, q105.1), (77, (x_iM77 - (1 : Int32)))]) (us aM [(72, q105.2), (74, x_aM74), (75, x_aM75), (76, x_aM76)])) (As := [.int ((x_aM75 ((x_iM77 - (1 : Int32))).toNatClampNeg))]) (rest := []) ⟨hx, hb, hml, hown, hts⟩ (c_M_putWord l dC dI cy ad H.size N ((x_aM75 ((x_iM77 - (1 : Int32))).toNatClampNeg)) ((us iM [(73, x_iM73), (77, (x_iM77 - (1 : Int32)))])) ((us aM [(72, x_aM72), (74, x_aM74), (75, x_aM75), (76, x_aM76)])) q105 e105) (cwV 1 hts (goodV m_ml_X8_449 m_im_X8_putWord m_se_X8_putWord m_in_X8 m_cd_X8_putWord) rfl rfl rfl (by decide +kernel) ⟨Nat.le_of_ble_eq_true rfl, Nat.le_of_ble_eq_true rfl⟩) hN hK hP hD hS hA rfl 0 rfl rfl rfl hl.1 rfl (Nat.le_of_ble_eq_true rfl) dX8_putConcept_105 ⟨Nat.zero_le _, Nat.zero_le _⟩ (fun H locs hP hD hS => ?_)
            refine lv_goto (tgt := 12) hx hb dX8_putConcept_108 (by decide) ?_
            exact ih q105.1 ((x_iM77 - (1 : Int32))) q105.2 x_aM74 x_aM75 x_aM76 H locs ls h hP hD hS (lv_sub hl [0] rfl)
          · have h := g_t h cz
            refine lv_aload_n hx hb dX8_putConcept_79 rfl (lv_at hl 0 rfl) ?_
            refine lv_aload_n hx hb dX8_putConcept_80 rfl (lv_at hl 0 rfl) ?_
            refine va_get (D := (dC, dI)) (ci := 8) (v := .ref (ad 42)) (C := RX8) (T := TX8) (N := 78) hx hb hts ki8 hown hK hP 0 rfl rfl 75 (by decide) kf141 (fun _ h9 => h9) rfl dX8_putConcept_81 ?_
            refine lv_aload_n hx hb dX8_putConcept_84 rfl (lv_at hl 0 rfl) ?_
            refine va_get (D := (dC, dI)) (ci := 8) (v := .int ((x_iM77 - (1 : Int32)))) (C := RX8) (T := TX8) (N := 78) hx hb hts ki8 hown hK hP 0 rfl rfl 77 (by decide) kf438 (fun _ h9 => h9) rfl dX8_putConcept_85 ?_
            refine va_iald (f := x_aM75) hx hb hK hP 42 0 rfl rfl g_145 dX8_putConcept_88 ?_
            obtain ⟨q89, e89, h⟩ := g_b h
            refine callVvs (cc := cX8_putConcept) (w1 := zzM ad cy (us iM [(73, q89.1), (77, (x_iM77 - (1 : Int32)))]) (us aM [(72, q89.2), (74, x_aM74), (75, x_aM75), (76, x_aM76)])) (As := [.int ((x_aM75 ((x_iM77 - (1 : Int32))).toNatClampNeg))]) (rest := []) ⟨hx, hb, hml, hown, hts⟩ (c_M_put l dC dI cy ad H.size ((x_aM75 ((x_iM77 - (1 : Int32))).toNatClampNeg)) ((us iM [(73, x_iM73), (77, (x_iM77 - (1 : Int32)))])) ((us aM [(72, x_aM72), (74, x_aM74), (75, x_aM75), (76, x_aM76)])) q89 e89) (cwV 1 hts (goodV m_ml_X8_441 m_im_X8_put m_se_X8_put m_in_X8 m_cd_X8_put) rfl rfl rfl (by decide +kernel) ⟨Nat.le_of_ble_eq_true rfl, Nat.le_of_ble_eq_true rfl⟩) hN hK hP hD hS hA rfl 0 rfl rfl rfl hl.1 rfl (Nat.le_of_ble_eq_true rfl) dX8_putConcept_89 ⟨Nat.zero_le _, Nat.zero_le _⟩ (fun H locs hP hD hS => ?_)
            refine lv_goto (tgt := 12) hx hb dX8_putConcept_92 (by decide) ?_
            exact ih q89.1 ((x_iM77 - (1 : Int32))) q89.2 x_aM74 x_aM75 x_aM76 H locs ls h hP hD hS (lv_sub hl [0] rfl)
        · have h := g_t h cz
          refine lv_aload_n hx hb dX8_putConcept_41 rfl (lv_at hl 0 rfl) ?_
          refine lv_aload_n hx hb dX8_putConcept_42 rfl (lv_at hl 0 rfl) ?_
          refine va_get (D := (dC, dI)) (ci := 8) (v := .ref (ad 42)) (C := RX8) (T := TX8) (N := 78) hx hb hts ki8 hown hK hP 0 rfl rfl 75 (by decide) kf141 (fun _ h9 => h9) rfl dX8_putConcept_43 ?_
          refine lv_aload_n hx hb dX8_putConcept_46 rfl (lv_at hl 0 rfl) ?_
          refine va_get (D := (dC, dI)) (ci := 8) (v := .int ((x_iM77 - (1 : Int32)))) (C := RX8) (T := TX8) (N := 78) hx hb hts ki8 hown hK hP 0 rfl rfl 77 (by decide) kf438 (fun _ h9 => h9) rfl dX8_putConcept_47 ?_
          refine va_iald (f := x_aM75) hx hb hK hP 42 0 rfl rfl g_145 dX8_putConcept_50 ?_
          refine lv_aload_n hx hb dX8_putConcept_51 rfl (lv_at hl 0 rfl) ?_
          refine va_get (D := (dC, dI)) (ci := 8) (v := .ref (ad 43)) (C := RX8) (T := TX8) (N := 78) hx hb hts ki8 hown hK hP 0 rfl rfl 76 (by decide) kf144 (fun _ h9 => h9) rfl dX8_putConcept_52 ?_
          refine lv_aload_n hx hb dX8_putConcept_55 rfl (lv_at hl 0 rfl) ?_
          refine va_get (D := (dC, dI)) (ci := 8) (v := .int ((x_iM77 - (1 : Int32)))) (C := RX8) (T := TX8) (N := 78) hx hb hts ki8 hown hK hP 0 rfl rfl 77 (by decide) kf438 (fun _ h9 => h9) rfl dX8_putConcept_56 ?_
          refine va_iald (f := x_aM76) hx hb hK hP 43 0 rfl rfl g_145 dX8_putConcept_59 ?_
          obtain ⟨q60, e60, h⟩ := g_b h
          refine callVvs (cc := cX8_putConcept) (w1 := zzM ad cy (us iM [(73, q60.1), (77, q60.2.1)]) (us aM [(72, q60.2.2.1), (74, q60.2.2.2.1), (75, q60.2.2.2.2.1), (76, q60.2.2.2.2.2)])) (As := [.int ((x_aM75 ((x_iM77 - (1 : Int32))).toNatClampNeg)), .int ((x_aM76 ((x_iM77 - (1 : Int32))).toNatClampNeg))]) (rest := []) ⟨hx, hb, hml, hown, hts⟩ (c_M_putOne l dC dI cy ad H.size N ((x_aM75 ((x_iM77 - (1 : Int32))).toNatClampNeg)) ((x_aM76 ((x_iM77 - (1 : Int32))).toNatClampNeg)) ((us iM [(73, x_iM73), (77, (x_iM77 - (1 : Int32)))])) ((us aM [(72, x_aM72), (74, x_aM74), (75, x_aM75), (76, x_aM76)])) q60 e60) (cwV 2 hts (goodV m_ml_X8_455 m_im_X8_putOne m_se_X8_putOne m_in_X8 m_cd_X8_putOne) rfl rfl rfl (by decide +kernel) ⟨Nat.le_of_ble_eq_true rfl, Nat.le_of_ble_eq_true rfl⟩) hN hK hP hD hS hA rfl 0 rfl rfl rfl hl.1 rfl (Nat.le_of_ble_eq_true rfl) dX8_putConcept_60 ⟨Nat.zero_le _, Nat.zero_le _⟩ (fun H locs hP hD hS => ?_)
          refine lv_goto (tgt := 12) hx hb dX8_putConcept_63 (by decide) ?_
          exact ih q60.1 q60.2.1 q60.2.2.1 q60.2.2.2.1 q60.2.2.2.2.1 q60.2.2.2.2.2 H locs ls h hP hD hS (lv_sub hl [0] rfl)
  intro H locs hP hD hS
  unfold f_M_putConcept at h
  refine lv_aload_n hx hb dX8_putConcept_0 rfl (lv_at hl 0 rfl) ?_
  refine lv_iconst (v := 0) hx hb dX8_putConcept_1 (by decide) ?_
  refine va_put (D := (dC, dI)) (ci := 8) (v := .int ((0 : Int32))) (ty := .int) (C := RX8) (T := TX8) (N := 78) hx hb hts ki8 tyX8 tyX8_ok nmX8 hown hK hP hD hS 0 rfl rfl 77 (by decide) kf438 (fun _ h9 => h9) rfl (by decide +kernel) rfl rfl (Nat.le_of_ble_eq_true rfl) dX8_putConcept_2 (fun H locs hP hD hS => ?_)
  have hP : va_P (dC, dI) vwCl (zzM ad cy (us iM [(77, (0 : Int32))]) aM) H := Eq.mp (congrArg (fun w => va_P (dC, dI) vwCl w H) (sfM_iM77 ad cy iM aM ((0 : Int32)))) hP
  have hD : va_D A (zzM ad cy (us iM [(77, (0 : Int32))]) aM) := Eq.mp (congrArg (fun w => va_D A w) (sfM_iM77 ad cy iM aM ((0 : Int32)))) hD
  refine lv_aload_n hx hb dX8_putConcept_5 rfl (lv_at hl 0 rfl) ?_
  refine lv_iconst (v := 0) hx hb dX8_putConcept_6 (by decide) ?_
  refine lv_iload_n hx hb dX8_putConcept_7 rfl (lv_at hl 1 rfl) ?_
  refine lv_iconst (v := 1) hx hb dX8_putConcept_8 (by decide) ?_
  obtain ⟨q9, e9, h⟩ := g_b h
  refine callVvs (cc := cX8_putConcept) (w1 := zzM ad cy (us iM [(77, q9.1)]) (us aM [(74, q9.2.1), (75, q9.2.2.1), (76, q9.2.2.2)])) (As := [.int ((0 : Int32)), .int a1, .int ((1 : Int32))]) (rest := []) ⟨hx, hb, hml, hown, hts⟩ (c_M_later l dC dI cy ad H.size ((0 : Int32)) a1 ((1 : Int32)) ((us iM [(77, (0 : Int32))])) aM q9 e9) (cwV 3 hts (goodV m_ml_X8_443 m_im_X8_later m_se_X8_later m_in_X8 m_cd_X8_later) rfl rfl rfl (by decide +kernel) ⟨Nat.le_of_ble_eq_true rfl, Nat.le_of_ble_eq_true rfl⟩) hN hK hP hD hS hA rfl 0 rfl rfl rfl hl.1 rfl (Nat.le_of_ble_eq_true rfl) dX8_putConcept_9 ⟨Nat.zero_le _, Nat.zero_le _⟩ (fun H locs hP hD hS => ?_)
  exact B12 N (iM 73) q9.1 (aM 72) q9.2.1 q9.2.2.1 q9.2.2.2 H locs ls h hP hD hS (lv_sub hl [0] rfl)
set_option maxHeartbeats 8000000 in
set_option maxRecDepth 100000 in
theorem c_M_print (l : Launch) (dC : Nat → ClassId) (dI : Nat → Nat → Nat) (cy : Nat → ClassId) (ad : Nat → Nat) (sz : Nat) (N : Nat) (iM : Nat → Int32) (aM : Nat → Nat → Int32) (q : Int32 × Int32 × Int32 × (Nat → Int32) × (Nat → Int32) × (Nat → Int32) × (Nat → Int32)) (h : f_M_print N (iM 18) (iM 37) (iM 73) (iM 77) (aM 7) (aM 8) (aM 9) (aM 10) (aM 15) (aM 16) (aM 17) (aM 23) (aM 24) (aM 26) (aM 27) (aM 72) (aM 74) (aM 75) (aM 76) = some q) : Met l yX8_print wsX8_print ({ frames := 4, cells := 0, slots := 0, locals := 89 } : Room) (cP (dC, dI) cy [.ref (ad 0)] (zzM ad cy iM aM) sz) (cQi (dC, dI) cy q.1 (zzM ad cy (us iM [(73, q.2.1), (77, q.2.2.1)]) (us aM [(72, q.2.2.2.1), (74, q.2.2.2.2.1), (75, q.2.2.2.2.2.1), (76, q.2.2.2.2.2.2)])) (va_A (zzM ad cy iM aM) sz)) 0 0 (va_A (zzM ad cy iM aM) sz) := by
  refine Met.ofW (cc := cX8_print) (maxL := 2) (ret := (some .int)) (by decide) rfl ?_
  intro p e s m args below meth c s₁ B hml hv
  obtain ⟨hav, hsz, hP, hK, hD0, hN⟩ := hv
  have hx := B.exec
  have hb := B.bytes
  have hr := B.returns
  have hts := atoms_spec (ws := wsX8_print) B.pre
  have hown : s.vm.findClass RX8 = some m.cls := findClass_of_methodNamed B.named
  have hlocks := B.notSynchronized
  subst hsz
  have hD := hD0.self (sz := s.heap.size)
  generalize hAe : va_A (zzM ad cy iM aM) s.heap.size = A at hD ⊢
  have hA : ∀ q : Nat, s.heap.size ≤ q → A q := fun q h => by rw [← hAe]; exact Or.inr h
  have hS : va_S A s.heap s.heap [] := va_S.rf
  generalize hWQ : (zzM ad cy (us iM [(73, q.2.1), (77, q.2.2.1)]) (us aM [(72, q.2.2.2.1), (74, q.2.2.2.2.1), (75, q.2.2.2.2.2.1), (76, q.2.2.2.2.2.2)])) = WQ
  generalize hQQ : MQ below (cQi (dC, dI) cy q.1 WQ A) args s 0 0 A = QQ
  have hl := lv_entry ([.ref (ad 0)] : List Value) (n := 2) (Nat.le_of_ble_eq_true rfl)
  have hfr := lg_entry_eq m ([.ref (ad 0)] : List Value) 2
  rw [← hav] at hfr
  rw [hfr]
  clear hfr hav
  generalize (lg_sl ([.ref (ad 0)] : List Value) ++ List.replicate (2 - (lg_sl ([.ref (ad 0)] : List Value)).length) Slot.unset).toArray = ls at hl ⊢
  have hl : lv_has ls 2 [(0, .ref (ad 0))] := hl
  have kf42 := hts _ (List.mem_cons_of_mem _ m_fl_X8_42)
  have ki8 := (fun w h => List.mem_cons_of_mem _ (i_X8 w h) : ∀ w ∈ u_ws RX8 TX8 78, w ∈ wsX8_print)
  have kf36 := hts _ (List.mem_cons_of_mem _ m_fl_X8_36)
  have kf338 := hts _ (List.mem_cons_of_mem _ m_fl_X8_338)
  have kf402 := hts _ (List.mem_cons_of_mem _ m_fl_X8_402)
  have kf39 := hts _ (List.mem_cons_of_mem _ m_fl_X8_39)
  have kf356 := hts _ (List.mem_cons_of_mem _ m_fl_X8_356)
  refine (?_ : ∀ (H : Heap) (locs : List Loc), va_P (dC, dI) vwCl (zzM ad cy iM aM) H → va_D A (zzM ad cy iM aM) → va_S A s.heap H locs → W p l e ({ frames := 4, cells := 0, slots := 0, locals := 89 } : Room) s m args below meth c H locs 0 0 QQ (F0 m 0 ls [])) s.heap [] hP hD hS
  clear hP hD hS
  have B167 : ∀ (v1 : Int32) (x_iM73 : Int32) (x_iM77 : Int32) (x_aM72 : Nat → Int32) (x_aM74 : Nat → Int32) (x_aM75 : Nat → Int32) (x_aM76 : Nat → Int32) (k17 : Int32 → Int32 → Int32 → (Nat → Int32) → (Nat → Int32) → (Nat → Int32) → (Nat → Int32) → Option (Int32 × Int32 × Int32 × (Nat → Int32) × (Nat → Int32) × (Nat → Int32) × (Nat → Int32))) (hk17 : ∀ (v1' : Int32) (x_iM73' : Int32) (x_iM77' : Int32) (x_aM72' : Nat → Int32) (x_aM74' : Nat → Int32) (x_aM75' : Nat → Int32) (x_aM76' : Nat → Int32) (H : Heap) (locs : List Loc) (ls : Array Slot), k17 v1' x_iM73' x_iM77' x_aM72' x_aM74' x_aM75' x_aM76' = some q → va_P (dC, dI) vwCl (zzM ad cy (us iM [(73, x_iM73'), (77, x_iM77')]) (us aM [(72, x_aM72'), (74, x_aM74'), (75, x_aM75'), (76, x_aM76')])) H → va_D A (zzM ad cy (us iM [(73, x_iM73'), (77, x_iM77')]) (us aM [(72, x_aM72'), (74, x_aM74'), (75, x_aM75'), (76, x_aM76')])) → va_S A s.heap H locs → lv_has ls 2 [(0, .ref (ad 0)), (1, .int v1')] → W p l e ({ frames := 4, cells := 0, slots := 0, locals := 89 } : Room) s m args below meth c H locs 0 0 QQ (F0 m 17 ls [])) (H : Heap) (locs : List Loc) (ls : Array Slot), f_M_print_167 N (iM 18) (iM 37) (iM 73) (iM 77) (aM 7) (aM 8) (aM 9) (aM 10) (aM 15) (aM 16) (aM 17) (aM 23) (aM 24) (aM 26) (aM 27) (aM 72) (aM 74) (aM 75) (aM 76) k17 v1 x_iM73 x_iM77 x_aM72 x_aM74 x_aM75 x_aM76 = some q → va_P (dC, dI) vwCl (zzM ad cy (us iM [(73, x_iM73), (77, x_iM77)]) (us aM [(72, x_aM72), (74, x_aM74), (75, x_aM75), (76, x_aM76)])) H → va_D A (zzM ad cy (us iM [(73, x_iM73), (77, x_iM77)]) (us aM [(72, x_aM72), (74, x_aM74), (75, x_aM75), (76, x_aM76)])) → va_S A s.heap H locs → lv_has ls 2 [(0, .ref (ad 0)), (1, .int v1)] → W p l e ({ frames := 4, cells := 0, slots := 0, locals := 89 } : Room) s m args below meth c H locs 0 0 QQ (F0 m 167 ls []) := by
    intro v1 x_iM73 x_iM77 x_aM72 x_aM74 x_aM75 x_aM76 k17 hk17 H locs ls h hP hD hS hl
    unfold f_M_print_167 at h
    refine lv_aload_n hx hb dX8_print_167 rfl (lv_at hl 0 rfl) ?_
    refine lv_bipush (v := 59) hx hb dX8_print_168 (by decide) ?_
    obtain ⟨q170, e170, h⟩ := g_b h
    refine callVvs (cc := cX8_print) (w1 := zzM ad cy (us iM [(73, q170.1), (77, x_iM77)]) (us aM [(72, q170.2), (74, x_aM74), (75, x_aM75), (76, x_aM76)])) (As := [.int ((59 : Int32))]) (rest := []) ⟨hx, hb, hml, hown, hts⟩ (c_M_put l dC dI cy ad H.size ((59 : Int32)) ((us iM [(73, x_iM73), (77, x_iM77)])) ((us aM [(72, x_aM72), (74, x_aM74), (75, x_aM75), (76, x_aM76)])) q170 e170) (cwV 1 hts (goodV m_ml_X8_441 m_im_X8_put m_se_X8_put m_in_X8 m_cd_X8_put) rfl rfl rfl (by decide +kernel) ⟨Nat.le_of_ble_eq_true rfl, Nat.le_of_ble_eq_true rfl⟩) hN hK hP hD hS hA rfl 0 rfl rfl rfl hl.1 rfl (Nat.le_of_ble_eq_true rfl) dX8_print_170 ⟨Nat.zero_le _, Nat.zero_le _⟩ (fun H locs hP hD hS => ?_)
    refine lv_aload_n hx hb dX8_print_173 rfl (lv_at hl 0 rfl) ?_
    refine lv_bipush (v := 10) hx hb dX8_print_174 (by decide) ?_
    obtain ⟨q176, e176, h⟩ := g_b h
    refine callVvs (cc := cX8_print) (w1 := zzM ad cy (us iM [(73, q176.1), (77, x_iM77)]) (us aM [(72, q176.2), (74, x_aM74), (75, x_aM75), (76, x_aM76)])) (As := [.int ((10 : Int32))]) (rest := []) ⟨hx, hb, hml, hown, hts⟩ (c_M_put l dC dI cy ad H.size ((10 : Int32)) ((us iM [(73, q170.1), (77, x_iM77)])) ((us aM [(72, q170.2), (74, x_aM74), (75, x_aM75), (76, x_aM76)])) q176 e176) (cwV 1 hts (goodV m_ml_X8_441 m_im_X8_put m_se_X8_put m_in_X8 m_cd_X8_put) rfl rfl rfl (by decide +kernel) ⟨Nat.le_of_ble_eq_true rfl, Nat.le_of_ble_eq_true rfl⟩) hN hK hP hD hS hA rfl 0 rfl rfl rfl hl.1 rfl (Nat.le_of_ble_eq_true rfl) dX8_print_176 ⟨Nat.zero_le _, Nat.zero_le _⟩ (fun H locs hP hD hS => ?_)
    refine lv_iinc (v := (v1 + (1 : Int32))) (lv' := [(1, .int ((v1 + (1 : Int32)))), (0, .ref (ad 0))]) hx hb dX8_print_179 hl (k := 1) rfl rfl (by decide) rfl (fun ls hl => ?_)
    refine lv_goto (tgt := 17) hx hb dX8_print_182 (by decide) ?_
    exact hk17 ((v1 + (1 : Int32))) q176.1 x_iM77 q176.2 x_aM74 x_aM75 x_aM76 H locs ls h hP hD hS (lv_sub hl [1, 0] rfl)
  have B68 : ∀ (v1 : Int32) (s1 : Int32) (x_iM73 : Int32) (x_iM77 : Int32) (x_aM72 : Nat → Int32) (x_aM74 : Nat → Int32) (x_aM75 : Nat → Int32) (x_aM76 : Nat → Int32) (k17 : Int32 → Int32 → Int32 → (Nat → Int32) → (Nat → Int32) → (Nat → Int32) → (Nat → Int32) → Option (Int32 × Int32 × Int32 × (Nat → Int32) × (Nat → Int32) × (Nat → Int32) × (Nat → Int32))) (hk17 : ∀ (v1' : Int32) (x_iM73' : Int32) (x_iM77' : Int32) (x_aM72' : Nat → Int32) (x_aM74' : Nat → Int32) (x_aM75' : Nat → Int32) (x_aM76' : Nat → Int32) (H : Heap) (locs : List Loc) (ls : Array Slot), k17 v1' x_iM73' x_iM77' x_aM72' x_aM74' x_aM75' x_aM76' = some q → va_P (dC, dI) vwCl (zzM ad cy (us iM [(73, x_iM73'), (77, x_iM77')]) (us aM [(72, x_aM72'), (74, x_aM74'), (75, x_aM75'), (76, x_aM76')])) H → va_D A (zzM ad cy (us iM [(73, x_iM73'), (77, x_iM77')]) (us aM [(72, x_aM72'), (74, x_aM74'), (75, x_aM75'), (76, x_aM76')])) → va_S A s.heap H locs → lv_has ls 2 [(0, .ref (ad 0)), (1, .int v1')] → W p l e ({ frames := 4, cells := 0, slots := 0, locals := 89 } : Room) s m args below meth c H locs 0 0 QQ (F0 m 17 ls [])) (H : Heap) (locs : List Loc) (ls : Array Slot), f_M_print_68 N (iM 18) (iM 37) (iM 73) (iM 77) (aM 7) (aM 8) (aM 9) (aM 10) (aM 15) (aM 16) (aM 17) (aM 23) (aM 24) (aM 26) (aM 27) (aM 72) (aM 74) (aM 75) (aM 76) k17 v1 s1 x_iM73 x_iM77 x_aM72 x_aM74 x_aM75 x_aM76 = some q → va_P (dC, dI) vwCl (zzM ad cy (us iM [(73, x_iM73), (77, x_iM77)]) (us aM [(72, x_aM72), (74, x_aM74), (75, x_aM75), (76, x_aM76)])) H → va_D A (zzM ad cy (us iM [(73, x_iM73), (77, x_iM77)]) (us aM [(72, x_aM72), (74, x_aM74), (75, x_aM75), (76, x_aM76)])) → va_S A s.heap H locs → lv_has ls 2 [(0, .ref (ad 0)), (1, .int v1)] → W p l e ({ frames := 4, cells := 0, slots := 0, locals := 89 } : Room) s m args below meth c H locs 0 0 QQ (F0 m 68 ls [.int s1, .ref (ad 0)]) := by
    intro v1 s1 x_iM73 x_iM77 x_aM72 x_aM74 x_aM75 x_aM76 k17 hk17 H locs ls h hP hD hS hl
    unfold f_M_print_68 at h
    obtain ⟨q68, e68, h⟩ := g_b h
    refine callVvs (cc := cX8_print) (w1 := zzM ad cy (us iM [(73, q68.1), (77, x_iM77)]) (us aM [(72, q68.2), (74, x_aM74), (75, x_aM75), (76, x_aM76)])) (As := [.int s1]) (rest := []) ⟨hx, hb, hml, hown, hts⟩ (c_M_put l dC dI cy ad H.size s1 ((us iM [(73, x_iM73), (77, x_iM77)])) ((us aM [(72, x_aM72), (74, x_aM74), (75, x_aM75), (76, x_aM76)])) q68 e68) (cwV 1 hts (goodV m_ml_X8_441 m_im_X8_put m_se_X8_put m_in_X8 m_cd_X8_put) rfl rfl rfl (by decide +kernel) ⟨Nat.le_of_ble_eq_true rfl, Nat.le_of_ble_eq_true rfl⟩) hN hK hP hD hS hA rfl 0 rfl rfl rfl hl.1 rfl (Nat.le_of_ble_eq_true rfl) dX8_print_68 ⟨Nat.zero_le _, Nat.zero_le _⟩ (fun H locs hP hD hS => ?_)
    refine lv_aload_n hx hb dX8_print_71 rfl (lv_at hl 0 rfl) ?_
    refine lv_bipush (v := 32) hx hb dX8_print_72 (by decide) ?_
    obtain ⟨q74, e74, h⟩ := g_b h
    refine callVvs (cc := cX8_print) (w1 := zzM ad cy (us iM [(73, q74.1), (77, x_iM77)]) (us aM [(72, q74.2), (74, x_aM74), (75, x_aM75), (76, x_aM76)])) (As := [.int ((32 : Int32))]) (rest := []) ⟨hx, hb, hml, hown, hts⟩ (c_M_put l dC dI cy ad H.size ((32 : Int32)) ((us iM [(73, q68.1), (77, x_iM77)])) ((us aM [(72, q68.2), (74, x_aM74), (75, x_aM75), (76, x_aM76)])) q74 e74) (cwV 1 hts (goodV m_ml_X8_441 m_im_X8_put m_se_X8_put m_in_X8 m_cd_X8_put) rfl rfl rfl (by decide +kernel) ⟨Nat.le_of_ble_eq_true rfl, Nat.le_of_ble_eq_true rfl⟩) hN hK hP hD hS hA rfl 0 rfl rfl rfl hl.1 rfl (Nat.le_of_ble_eq_true rfl) dX8_print_74 ⟨Nat.zero_le _, Nat.zero_le _⟩ (fun H locs hP hD hS => ?_)
    refine lv_aload_n hx hb dX8_print_77 rfl (lv_at hl 0 rfl) ?_
    refine lv_aload_n hx hb dX8_print_78 rfl (lv_at hl 0 rfl) ?_
    refine va_get (D := (dC, dI)) (ci := 8) (v := .ref (ad 11)) (C := RX8) (T := TX8) (N := 78) hx hb hts ki8 hown hK hP 0 rfl rfl 17 (by decide) kf42 (fun _ h9 => h9) rfl dX8_print_79 ?_
    refine lv_iload_n hx hb dX8_print_82 rfl (lv_at hl 1 rfl) ?_
    obtain ⟨g_127, h⟩ := g_n h
    refine va_iald (f := (aM 17)) hx hb hK hP 11 0 rfl rfl g_127 dX8_print_83 ?_
    obtain ⟨q84, e84, h⟩ := g_b h
    refine callVvs (cc := cX8_print) (w1 := zzM ad cy (us iM [(73, q84.1), (77, q84.2.1)]) (us aM [(72, q84.2.2.1), (74, q84.2.2.2.1), (75, q84.2.2.2.2.1), (76, q84.2.2.2.2.2)])) (As := [.int (((aM 17) v1.toNatClampNeg))]) (rest := []) ⟨hx, hb, hml, hown, hts⟩ (c_M_putConcept l dC dI cy ad H.size N (((aM 17) v1.toNatClampNeg)) ((us iM [(73, q74.1), (77, x_iM77)])) ((us aM [(72, q74.2), (74, x_aM74), (75, x_aM75), (76, x_aM76)])) q84 e84) (cwV 1 hts (goodV m_ml_X8_458 m_im_X8_putConcept m_se_X8_putConcept m_in_X8 m_cd_X8_putConcept) rfl rfl rfl (by decide +kernel) ⟨Nat.le_of_ble_eq_true rfl, Nat.le_of_ble_eq_true rfl⟩) hN hK hP hD hS hA rfl 0 rfl rfl rfl hl.1 rfl (Nat.le_of_ble_eq_true rfl) dX8_print_84 ⟨Nat.zero_le _, Nat.zero_le _⟩ (fun H locs hP hD hS => ?_)
    refine lv_goto (tgt := 167) hx hb dX8_print_87 (by decide) ?_
    exact B167 v1 q84.1 q84.2.1 q84.2.2.1 q84.2.2.2.1 q84.2.2.2.2.1 q84.2.2.2.2.2 k17 hk17 H locs ls h hP hD hS (lv_sub hl [0, 1] rfl)
  have B141 : ∀ (v1 : Int32) (x_iM73 : Int32) (x_iM77 : Int32) (x_aM72 : Nat → Int32) (x_aM74 : Nat → Int32) (x_aM75 : Nat → Int32) (x_aM76 : Nat → Int32) (k17 : Int32 → Int32 → Int32 → (Nat → Int32) → (Nat → Int32) → (Nat → Int32) → (Nat → Int32) → Option (Int32 × Int32 × Int32 × (Nat → Int32) × (Nat → Int32) × (Nat → Int32) × (Nat → Int32))) (hk17 : ∀ (v1' : Int32) (x_iM73' : Int32) (x_iM77' : Int32) (x_aM72' : Nat → Int32) (x_aM74' : Nat → Int32) (x_aM75' : Nat → Int32) (x_aM76' : Nat → Int32) (H : Heap) (locs : List Loc) (ls : Array Slot), k17 v1' x_iM73' x_iM77' x_aM72' x_aM74' x_aM75' x_aM76' = some q → va_P (dC, dI) vwCl (zzM ad cy (us iM [(73, x_iM73'), (77, x_iM77')]) (us aM [(72, x_aM72'), (74, x_aM74'), (75, x_aM75'), (76, x_aM76')])) H → va_D A (zzM ad cy (us iM [(73, x_iM73'), (77, x_iM77')]) (us aM [(72, x_aM72'), (74, x_aM74'), (75, x_aM75'), (76, x_aM76')])) → va_S A s.heap H locs → lv_has ls 2 [(0, .ref (ad 0)), (1, .int v1')] → W p l e ({ frames := 4, cells := 0, slots := 0, locals := 89 } : Room) s m args below meth c H locs 0 0 QQ (F0 m 17 ls [])) (H : Heap) (locs : List Loc) (ls : Array Slot), f_M_print_141 N (iM 18) (iM 37) (iM 73) (iM 77) (aM 7) (aM 8) (aM 9) (aM 10) (aM 15) (aM 16) (aM 17) (aM 23) (aM 24) (aM 26) (aM 27) (aM 72) (aM 74) (aM 75) (aM 76) k17 v1 x_iM73 x_iM77 x_aM72 x_aM74 x_aM75 x_aM76 = some q → va_P (dC, dI) vwCl (zzM ad cy (us iM [(73, x_iM73), (77, x_iM77)]) (us aM [(72, x_aM72), (74, x_aM74), (75, x_aM75), (76, x_aM76)])) H → va_D A (zzM ad cy (us iM [(73, x_iM73), (77, x_iM77)]) (us aM [(72, x_aM72), (74, x_aM74), (75, x_aM75), (76, x_aM76)])) → va_S A s.heap H locs → lv_has ls 2 [(0, .ref (ad 0)), (1, .int v1)] → W p l e ({ frames := 4, cells := 0, slots := 0, locals := 89 } : Room) s m args below meth c H locs 0 0 QQ (F0 m 141 ls []) := by
    intro v1 x_iM73 x_iM77 x_aM72 x_aM74 x_aM75 x_aM76 k17 hk17 H locs ls h hP hD hS hl
    unfold f_M_print_141 at h
    refine lv_aload_n hx hb dX8_print_141 rfl (lv_at hl 0 rfl) ?_
    refine va_get (D := (dC, dI)) (ci := 8) (v := .ref (ad 9)) (C := RX8) (T := TX8) (N := 78) hx hb hts ki8 hown hK hP 0 rfl rfl 15 (by decide) kf36 (fun _ h9 => h9) rfl dX8_print_142 ?_
    refine lv_iload_n hx hb dX8_print_145 rfl (lv_at hl 1 rfl) ?_
    obtain ⟨g_127, h⟩ := g_n h
    refine va_iald (f := (aM 15)) hx hb hK hP 9 0 rfl rfl g_127 dX8_print_146 ?_
    refine lv_iconst (v := 3) hx hb dX8_print_147 (by decide) ?_
    refine lv_icmp_ne (tgt := 167) hx hb dX8_print_148 (by decide) (fun cz => ?_) (fun cz => ?_)
    · have h := g_f h cz
      exact B167 v1 x_iM73 x_iM77 x_aM72 x_aM74 x_aM75 x_aM76 k17 hk17 H locs ls h hP hD hS (lv_sub hl [0, 1] rfl)
    · have h := g_t h cz
      refine lv_aload_n hx hb dX8_print_151 rfl (lv_at hl 0 rfl) ?_
      refine lv_bipush (v := 32) hx hb dX8_print_152 (by decide) ?_
      obtain ⟨q154, e154, h⟩ := g_b h
      refine callVvs (cc := cX8_print) (w1 := zzM ad cy (us iM [(73, q154.1), (77, x_iM77)]) (us aM [(72, q154.2), (74, x_aM74), (75, x_aM75), (76, x_aM76)])) (As := [.int ((32 : Int32))]) (rest := []) ⟨hx, hb, hml, hown, hts⟩ (c_M_put l dC dI cy ad H.size ((32 : Int32)) ((us iM [(73, x_iM73), (77, x_iM77)])) ((us aM [(72, x_aM72), (74, x_aM74), (75, x_aM75), (76, x_aM76)])) q154 e154) (cwV 1 hts (goodV m_ml_X8_441 m_im_X8_put m_se_X8_put m_in_X8 m_cd_X8_put) rfl rfl rfl (by decide +kernel) ⟨Nat.le_of_ble_eq_true rfl, Nat.le_of_ble_eq_true rfl⟩) hN hK hP hD hS hA rfl 0 rfl rfl rfl hl.1 rfl (Nat.le_of_ble_eq_true rfl) dX8_print_154 ⟨Nat.zero_le _, Nat.zero_le _⟩ (fun H locs hP hD hS => ?_)
      refine lv_aload_n hx hb dX8_print_157 rfl (lv_at hl 0 rfl) ?_
      refine lv_aload_n hx hb dX8_print_158 rfl (lv_at hl 0 rfl) ?_
      refine va_get (D := (dC, dI)) (ci := 8) (v := .ref (ad 11)) (C := RX8) (T := TX8) (N := 78) hx hb hts ki8 hown hK hP 0 rfl rfl 17 (by decide) kf42 (fun _ h9 => h9) rfl dX8_print_159 ?_
      refine lv_iload_n hx hb dX8_print_162 rfl (lv_at hl 1 rfl) ?_
      refine va_iald (f := (aM 17)) hx hb hK hP 11 0 rfl rfl g_127 dX8_print_163 ?_
      obtain ⟨q164, e164, h⟩ := g_b h
      refine callVvs (cc := cX8_print) (w1 := zzM ad cy (us iM [(73, q164.1), (77, x_iM77)]) (us aM [(72, q164.2), (74, x_aM74), (75, x_aM75), (76, x_aM76)])) (As := [.int (((aM 17) v1.toNatClampNeg))]) (rest := []) ⟨hx, hb, hml, hown, hts⟩ (c_M_putRole l dC dI cy ad H.size N (((aM 17) v1.toNatClampNeg)) ((us iM [(73, q154.1), (77, x_iM77)])) ((us aM [(72, q154.2), (74, x_aM74), (75, x_aM75), (76, x_aM76)])) q164 e164) (cwV 1 hts (goodV m_ml_X8_452 m_im_X8_putRole m_se_X8_putRole m_in_X8 m_cd_X8_putRole) rfl rfl rfl (by decide +kernel) ⟨Nat.le_of_ble_eq_true rfl, Nat.le_of_ble_eq_true rfl⟩) hN hK hP hD hS hA rfl 0 rfl rfl rfl hl.1 rfl (Nat.le_of_ble_eq_true rfl) dX8_print_164 ⟨Nat.zero_le _, Nat.zero_le _⟩ (fun H locs hP hD hS => ?_)
      exact B167 v1 q164.1 x_iM77 q164.2 x_aM74 x_aM75 x_aM76 k17 hk17 H locs ls h hP hD hS (lv_sub hl [0, 1] rfl)
  have B17 : ∀ (n : Nat) (v1 : Int32) (x_iM73 : Int32) (x_iM77 : Int32) (x_aM72 : Nat → Int32) (x_aM74 : Nat → Int32) (x_aM75 : Nat → Int32) (x_aM76 : Nat → Int32) (H : Heap) (locs : List Loc) (ls : Array Slot), f_M_print_17 N (iM 18) (iM 37) (iM 73) (iM 77) (aM 7) (aM 8) (aM 9) (aM 10) (aM 15) (aM 16) (aM 17) (aM 23) (aM 24) (aM 26) (aM 27) (aM 72) (aM 74) (aM 75) (aM 76) n v1 x_iM73 x_iM77 x_aM72 x_aM74 x_aM75 x_aM76 = some q → va_P (dC, dI) vwCl (zzM ad cy (us iM [(73, x_iM73), (77, x_iM77)]) (us aM [(72, x_aM72), (74, x_aM74), (75, x_aM75), (76, x_aM76)])) H → va_D A (zzM ad cy (us iM [(73, x_iM73), (77, x_iM77)]) (us aM [(72, x_aM72), (74, x_aM74), (75, x_aM75), (76, x_aM76)])) → va_S A s.heap H locs → lv_has ls 2 [(0, .ref (ad 0)), (1, .int v1)] → W p l e ({ frames := 4, cells := 0, slots := 0, locals := 89 } : Room) s m args below meth c H locs 0 0 QQ (F0 m 17 ls []) := by
    intro n
    induction n with
    | zero =>
      intro v1 x_iM73 x_iM77 x_aM72 x_aM74 x_aM75 x_aM76 H locs ls h hP hD hS hl
      rw [f_M_print_17] at h
      cases h
    | succ n ih =>
      intro v1 x_iM73 x_iM77 x_aM72 x_aM74 x_aM75 x_aM76 H locs ls h hP hD hS hl
      rw [f_M_print_17] at h
      refine lv_iload_n hx hb dX8_print_17 rfl (lv_at hl 1 rfl) ?_
      refine lv_aload_n hx hb dX8_print_18 rfl (lv_at hl 0 rfl) ?_
      refine va_get (D := (dC, dI)) (ci := 8) (v := .int (iM 18)) (C := RX8) (T := TX8) (N := 78) hx hb hts ki8 hown hK hP 0 rfl rfl 18 (by decide) kf338 (fun _ h9 => h9) rfl dX8_print_19 ?_
      refine lv_icmp_ge (tgt := 185) hx hb dX8_print_22 (by decide) (fun cz => ?_) (fun cz => ?_)
      · have h := g_t h cz
        refine lv_aload_n hx hb dX8_print_185 rfl (lv_at hl 0 rfl) ?_
        refine va_get (D := (dC, dI)) (ci := 8) (v := .int x_iM73) (C := RX8) (T := TX8) (N := 78) hx hb hts ki8 hown hK hP 0 rfl rfl 73 (by decide) kf402 (fun _ h9 => h9) rfl dX8_print_186 ?_
        have h' := Option.some.inj h
        rw [← hQQ]
        exact W.iret (v := x_iM73) hx hb hr (fun t ht hW => ⟨⟨x_iM73, (), rfl, by rw [← h'], by rw [← hWQ, ← h', ht]; exact hP, va_K.moved hW.alike hK⟩, hS.F ht⟩) hS.2.2 dX8_print_189
      · have h := g_f h cz
        refine lv_aload_n hx hb dX8_print_25 rfl (lv_at hl 0 rfl) ?_
        refine va_get (D := (dC, dI)) (ci := 8) (v := .ref (ad 9)) (C := RX8) (T := TX8) (N := 78) hx hb hts ki8 hown hK hP 0 rfl rfl 15 (by decide) kf36 (fun _ h9 => h9) rfl dX8_print_26 ?_
        refine lv_iload_n hx hb dX8_print_29 rfl (lv_at hl 1 rfl) ?_
        obtain ⟨g_127, h⟩ := g_n h
        refine va_iald (f := (aM 15)) hx hb hK hP 9 0 rfl rfl g_127 dX8_print_30 ?_
        refine lv_iconst (v := 2) hx hb dX8_print_31 (by decide) ?_
        refine lv_icmp_ge (tgt := 90) hx hb dX8_print_32 (by decide) (fun cz => ?_) (fun cz => ?_)
        · have h := g_t h cz
          refine lv_aload_n hx hb dX8_print_90 rfl (lv_at hl 0 rfl) ?_
          refine lv_aload_n hx hb dX8_print_91 rfl (lv_at hl 0 rfl) ?_
          refine va_get (D := (dC, dI)) (ci := 8) (v := .ref (ad 9)) (C := RX8) (T := TX8) (N := 78) hx hb hts ki8 hown hK hP 0 rfl rfl 15 (by decide) kf36 (fun _ h9 => h9) rfl dX8_print_92 ?_
          refine lv_iload_n hx hb dX8_print_95 rfl (lv_at hl 1 rfl) ?_
          refine va_iald (f := (aM 15)) hx hb hK hP 9 0 rfl rfl g_127 dX8_print_96 ?_
          refine lv_iconst (v := 2) hx hb dX8_print_97 (by decide) ?_
          refine lv_isub hx hb dX8_print_98 ?_
          obtain ⟨q99, e99, h⟩ := g_b h
          refine callVvs (cc := cX8_print) (w1 := zzM ad cy (us iM [(73, q99.1), (77, x_iM77)]) (us aM [(72, q99.2), (74, x_aM74), (75, x_aM75), (76, x_aM76)])) (As := [.int ((((aM 15) v1.toNatClampNeg) - (2 : Int32)))]) (rest := []) ⟨hx, hb, hml, hown, hts⟩ (c_M_putWord l dC dI cy ad H.size N ((((aM 15) v1.toNatClampNeg) - (2 : Int32))) ((us iM [(73, x_iM73), (77, x_iM77)])) ((us aM [(72, x_aM72), (74, x_aM74), (75, x_aM75), (76, x_aM76)])) q99 e99) (cwV 1 hts (goodV m_ml_X8_449 m_im_X8_putWord m_se_X8_putWord m_in_X8 m_cd_X8_putWord) rfl rfl rfl (by decide +kernel) ⟨Nat.le_of_ble_eq_true rfl, Nat.le_of_ble_eq_true rfl⟩) hN hK hP hD hS hA rfl 0 rfl rfl rfl hl.1 rfl (Nat.le_of_ble_eq_true rfl) dX8_print_99 ⟨Nat.zero_le _, Nat.zero_le _⟩ (fun H locs hP hD hS => ?_)
          refine lv_aload_n hx hb dX8_print_102 rfl (lv_at hl 0 rfl) ?_
          refine lv_bipush (v := 32) hx hb dX8_print_103 (by decide) ?_
          obtain ⟨q105, e105, h⟩ := g_b h
          refine callVvs (cc := cX8_print) (w1 := zzM ad cy (us iM [(73, q105.1), (77, x_iM77)]) (us aM [(72, q105.2), (74, x_aM74), (75, x_aM75), (76, x_aM76)])) (As := [.int ((32 : Int32))]) (rest := []) ⟨hx, hb, hml, hown, hts⟩ (c_M_put l dC dI cy ad H.size ((32 : Int32)) ((us iM [(73, q99.1), (77, x_iM77)])) ((us aM [(72, q99.2), (74, x_aM74), (75, x_aM75), (76, x_aM76)])) q105 e105) (cwV 1 hts (goodV m_ml_X8_441 m_im_X8_put m_se_X8_put m_in_X8 m_cd_X8_put) rfl rfl rfl (by decide +kernel) ⟨Nat.le_of_ble_eq_true rfl, Nat.le_of_ble_eq_true rfl⟩) hN hK hP hD hS hA rfl 0 rfl rfl rfl hl.1 rfl (Nat.le_of_ble_eq_true rfl) dX8_print_105 ⟨Nat.zero_le _, Nat.zero_le _⟩ (fun H locs hP hD hS => ?_)
          refine lv_aload_n hx hb dX8_print_108 rfl (lv_at hl 0 rfl) ?_
          refine va_get (D := (dC, dI)) (ci := 8) (v := .ref (ad 9)) (C := RX8) (T := TX8) (N := 78) hx hb hts ki8 hown hK hP 0 rfl rfl 15 (by decide) kf36 (fun _ h9 => h9) rfl dX8_print_109 ?_
          refine lv_iload_n hx hb dX8_print_112 rfl (lv_at hl 1 rfl) ?_
          refine va_iald (f := (aM 15)) hx hb hK hP 9 0 rfl rfl g_127 dX8_print_113 ?_
          refine lv_iconst (v := 2) hx hb dX8_print_114 (by decide) ?_
          refine lv_icmp_ne (tgt := 131) hx hb dX8_print_115 (by decide) (fun cz => ?_) (fun cz => ?_)
          · have h := g_f h cz
            refine lv_aload_n hx hb dX8_print_131 rfl (lv_at hl 0 rfl) ?_
            refine lv_aload_n hx hb dX8_print_132 rfl (lv_at hl 0 rfl) ?_
            refine va_get (D := (dC, dI)) (ci := 8) (v := .ref (ad 10)) (C := RX8) (T := TX8) (N := 78) hx hb hts ki8 hown hK hP 0 rfl rfl 16 (by decide) kf39 (fun _ h9 => h9) rfl dX8_print_133 ?_
            refine lv_iload_n hx hb dX8_print_136 rfl (lv_at hl 1 rfl) ?_
            refine va_iald (f := (aM 16)) hx hb hK hP 10 0 rfl rfl g_127 dX8_print_137 ?_
            obtain ⟨q138, e138, h⟩ := g_b h
            refine callVvs (cc := cX8_print) (w1 := zzM ad cy (us iM [(73, q138.1), (77, x_iM77)]) (us aM [(72, q138.2), (74, x_aM74), (75, x_aM75), (76, x_aM76)])) (As := [.int (((aM 16) v1.toNatClampNeg))]) (rest := []) ⟨hx, hb, hml, hown, hts⟩ (c_M_putRole l dC dI cy ad H.size N (((aM 16) v1.toNatClampNeg)) ((us iM [(73, q105.1), (77, x_iM77)])) ((us aM [(72, q105.2), (74, x_aM74), (75, x_aM75), (76, x_aM76)])) q138 e138) (cwV 1 hts (goodV m_ml_X8_452 m_im_X8_putRole m_se_X8_putRole m_in_X8 m_cd_X8_putRole) rfl rfl rfl (by decide +kernel) ⟨Nat.le_of_ble_eq_true rfl, Nat.le_of_ble_eq_true rfl⟩) hN hK hP hD hS hA rfl 0 rfl rfl rfl hl.1 rfl (Nat.le_of_ble_eq_true rfl) dX8_print_138 ⟨Nat.zero_le _, Nat.zero_le _⟩ (fun H locs hP hD hS => ?_)
            exact B141 v1 q138.1 x_iM77 q138.2 x_aM74 x_aM75 x_aM76 (f_M_print_17 N (iM 18) (iM 37) (iM 73) (iM 77) (aM 7) (aM 8) (aM 9) (aM 10) (aM 15) (aM 16) (aM 17) (aM 23) (aM 24) (aM 26) (aM 27) (aM 72) (aM 74) (aM 75) (aM 76) n) ih H locs ls h hP hD hS (lv_sub hl [0, 1] rfl)
          · have h := g_t h cz
            refine lv_aload_n hx hb dX8_print_118 rfl (lv_at hl 0 rfl) ?_
            refine lv_aload_n hx hb dX8_print_119 rfl (lv_at hl 0 rfl) ?_
            refine va_get (D := (dC, dI)) (ci := 8) (v := .ref (ad 10)) (C := RX8) (T := TX8) (N := 78) hx hb hts ki8 hown hK hP 0 rfl rfl 16 (by decide) kf39 (fun _ h9 => h9) rfl dX8_print_120 ?_
            refine lv_iload_n hx hb dX8_print_123 rfl (lv_at hl 1 rfl) ?_
            refine va_iald (f := (aM 16)) hx hb hK hP 10 0 rfl rfl g_127 dX8_print_124 ?_
            obtain ⟨q125, e125, h⟩ := g_b h
            refine callVvs (cc := cX8_print) (w1 := zzM ad cy (us iM [(73, q125.1), (77, q125.2.1)]) (us aM [(72, q125.2.2.1), (74, q125.2.2.2.1), (75, q125.2.2.2.2.1), (76, q125.2.2.2.2.2)])) (As := [.int (((aM 16) v1.toNatClampNeg))]) (rest := []) ⟨hx, hb, hml, hown, hts⟩ (c_M_putConcept l dC dI cy ad H.size N (((aM 16) v1.toNatClampNeg)) ((us iM [(73, q105.1), (77, x_iM77)])) ((us aM [(72, q105.2), (74, x_aM74), (75, x_aM75), (76, x_aM76)])) q125 e125) (cwV 1 hts (goodV m_ml_X8_458 m_im_X8_putConcept m_se_X8_putConcept m_in_X8 m_cd_X8_putConcept) rfl rfl rfl (by decide +kernel) ⟨Nat.le_of_ble_eq_true rfl, Nat.le_of_ble_eq_true rfl⟩) hN hK hP hD hS hA rfl 0 rfl rfl rfl hl.1 rfl (Nat.le_of_ble_eq_true rfl) dX8_print_125 ⟨Nat.zero_le _, Nat.zero_le _⟩ (fun H locs hP hD hS => ?_)
            refine lv_goto (tgt := 141) hx hb dX8_print_128 (by decide) ?_
            exact B141 v1 q125.1 q125.2.1 q125.2.2.1 q125.2.2.2.1 q125.2.2.2.2.1 q125.2.2.2.2.2 (f_M_print_17 N (iM 18) (iM 37) (iM 73) (iM 77) (aM 7) (aM 8) (aM 9) (aM 10) (aM 15) (aM 16) (aM 17) (aM 23) (aM 24) (aM 26) (aM 27) (aM 72) (aM 74) (aM 75) (aM 76) n) ih H locs ls h hP hD hS (lv_sub hl [0, 1] rfl)
        · have h := g_f h cz
          refine lv_aload_n hx hb dX8_print_35 rfl (lv_at hl 0 rfl) ?_
          refine lv_aload_n hx hb dX8_print_36 rfl (lv_at hl 0 rfl) ?_
          refine va_get (D := (dC, dI)) (ci := 8) (v := .ref (ad 10)) (C := RX8) (T := TX8) (N := 78) hx hb hts ki8 hown hK hP 0 rfl rfl 16 (by decide) kf39 (fun _ h9 => h9) rfl dX8_print_37 ?_
          refine lv_iload_n hx hb dX8_print_40 rfl (lv_at hl 1 rfl) ?_
          refine va_iald (f := (aM 16)) hx hb hK hP 10 0 rfl rfl g_127 dX8_print_41 ?_
          obtain ⟨q42, e42, h⟩ := g_b h
          refine callVvs (cc := cX8_print) (w1 := zzM ad cy (us iM [(73, q42.1), (77, q42.2.1)]) (us aM [(72, q42.2.2.1), (74, q42.2.2.2.1), (75, q42.2.2.2.2.1), (76, q42.2.2.2.2.2)])) (As := [.int (((aM 16) v1.toNatClampNeg))]) (rest := []) ⟨hx, hb, hml, hown, hts⟩ (c_M_putConcept l dC dI cy ad H.size N (((aM 16) v1.toNatClampNeg)) ((us iM [(73, x_iM73), (77, x_iM77)])) ((us aM [(72, x_aM72), (74, x_aM74), (75, x_aM75), (76, x_aM76)])) q42 e42) (cwV 1 hts (goodV m_ml_X8_458 m_im_X8_putConcept m_se_X8_putConcept m_in_X8 m_cd_X8_putConcept) rfl rfl rfl (by decide +kernel) ⟨Nat.le_of_ble_eq_true rfl, Nat.le_of_ble_eq_true rfl⟩) hN hK hP hD hS hA rfl 0 rfl rfl rfl hl.1 rfl (Nat.le_of_ble_eq_true rfl) dX8_print_42 ⟨Nat.zero_le _, Nat.zero_le _⟩ (fun H locs hP hD hS => ?_)
          refine lv_aload_n hx hb dX8_print_45 rfl (lv_at hl 0 rfl) ?_
          refine lv_bipush (v := 32) hx hb dX8_print_46 (by decide) ?_
          obtain ⟨q48, e48, h⟩ := g_b h
          refine callVvs (cc := cX8_print) (w1 := zzM ad cy (us iM [(73, q48.1), (77, q42.2.1)]) (us aM [(72, q48.2), (74, q42.2.2.2.1), (75, q42.2.2.2.2.1), (76, q42.2.2.2.2.2)])) (As := [.int ((32 : Int32))]) (rest := []) ⟨hx, hb, hml, hown, hts⟩ (c_M_put l dC dI cy ad H.size ((32 : Int32)) ((us iM [(73, q42.1), (77, q42.2.1)])) ((us aM [(72, q42.2.2.1), (74, q42.2.2.2.1), (75, q42.2.2.2.2.1), (76, q42.2.2.2.2.2)])) q48 e48) (cwV 1 hts (goodV m_ml_X8_441 m_im_X8_put m_se_X8_put m_in_X8 m_cd_X8_put) rfl rfl rfl (by decide +kernel) ⟨Nat.le_of_ble_eq_true rfl, Nat.le_of_ble_eq_true rfl⟩) hN hK hP hD hS hA rfl 0 rfl rfl rfl hl.1 rfl (Nat.le_of_ble_eq_true rfl) dX8_print_48 ⟨Nat.zero_le _, Nat.zero_le _⟩ (fun H locs hP hD hS => ?_)
          refine lv_aload_n hx hb dX8_print_51 rfl (lv_at hl 0 rfl) ?_
          refine lv_aload_n hx hb dX8_print_52 rfl (lv_at hl 0 rfl) ?_
          refine va_get (D := (dC, dI)) (ci := 8) (v := .ref (ad 9)) (C := RX8) (T := TX8) (N := 78) hx hb hts ki8 hown hK hP 0 rfl rfl 15 (by decide) kf36 (fun _ h9 => h9) rfl dX8_print_53 ?_
          refine lv_iload_n hx hb dX8_print_56 rfl (lv_at hl 1 rfl) ?_
          refine va_iald (f := (aM 15)) hx hb hK hP 9 0 rfl rfl g_127 dX8_print_57 ?_
          refine lv_if_ne (tgt := 66) hx hb dX8_print_58 (by decide) (fun cz => ?_) (fun cz => ?_)
          · have h := g_f h cz
            refine lv_bipush (v := 61) hx hb dX8_print_66 (by decide) ?_
            exact B68 v1 ((61 : Int32)) q48.1 q42.2.1 q48.2 q42.2.2.2.1 q42.2.2.2.2.1 q42.2.2.2.2.2 (f_M_print_17 N (iM 18) (iM 37) (iM 73) (iM 77) (aM 7) (aM 8) (aM 9) (aM 10) (aM 15) (aM 16) (aM 17) (aM 23) (aM 24) (aM 26) (aM 27) (aM 72) (aM 74) (aM 75) (aM 76) n) ih H locs ls h hP hD hS (lv_sub hl [0, 1] rfl)
          · have h := g_t h cz
            refine lv_bipush (v := 60) hx hb dX8_print_61 (by decide) ?_
            refine lv_goto (tgt := 68) hx hb dX8_print_63 (by decide) ?_
            exact B68 v1 ((60 : Int32)) q48.1 q42.2.1 q48.2 q42.2.2.2.1 q42.2.2.2.2.1 q42.2.2.2.2.2 (f_M_print_17 N (iM 18) (iM 37) (iM 73) (iM 77) (aM 7) (aM 8) (aM 9) (aM 10) (aM 15) (aM 16) (aM 17) (aM 23) (aM 24) (aM 26) (aM 27) (aM 72) (aM 74) (aM 75) (aM 76) n) ih H locs ls h hP hD hS (lv_sub hl [0, 1] rfl)
  intro H locs hP hD hS
  unfold f_M_print at h
  refine lv_aload_n hx hb dX8_print_0 rfl (lv_at hl 0 rfl) ?_
  refine va_get (D := (dC, dI)) (ci := 8) (v := .int (iM 37)) (C := RX8) (T := TX8) (N := 78) hx hb hts ki8 hown hK hP 0 rfl rfl 37 (by decide) kf356 (fun _ h9 => h9) rfl dX8_print_1 ?_
  refine lv_if_ne (tgt := 10) hx hb dX8_print_4 (by decide) (fun cz => ?_) (fun cz => ?_)
  · have h := g_f h cz
    refine lv_aload_n hx hb dX8_print_10 rfl (lv_at hl 0 rfl) ?_
    refine lv_iconst (v := 0) hx hb dX8_print_11 (by decide) ?_
    refine va_put (D := (dC, dI)) (ci := 8) (v := .int ((0 : Int32))) (ty := .int) (C := RX8) (T := TX8) (N := 78) hx hb hts ki8 tyX8 tyX8_ok nmX8 hown hK hP hD hS 0 rfl rfl 73 (by decide) kf402 (fun _ h9 => h9) rfl (by decide +kernel) rfl rfl (Nat.le_of_ble_eq_true rfl) dX8_print_12 (fun H locs hP hD hS => ?_)
    have hP : va_P (dC, dI) vwCl (zzM ad cy (us iM [(73, (0 : Int32))]) aM) H := Eq.mp (congrArg (fun w => va_P (dC, dI) vwCl w H) (sfM_iM73 ad cy iM aM ((0 : Int32)))) hP
    have hD : va_D A (zzM ad cy (us iM [(73, (0 : Int32))]) aM) := Eq.mp (congrArg (fun w => va_D A w) (sfM_iM73 ad cy iM aM ((0 : Int32)))) hD
    refine lv_iconst (v := 0) hx hb dX8_print_15 (by decide) ?_
    refine lv_istore_n (lv' := [(1, .int ((0 : Int32))), (0, .ref (ad 0))]) hx hb dX8_print_16 rfl hl (by decide) rfl (fun ls hl => ?_)
    exact B17 N ((0 : Int32)) ((0 : Int32)) (iM 77) (aM 72) (aM 74) (aM 75) (aM 76) H locs ls h hP hD hS (lv_sub hl [1, 0] rfl)
  · have h := g_t h cz
    refine lv_bipush (v := (-101)) hx hb dX8_print_7 (by decide) ?_
    have h' := Option.some.inj h
    rw [← hQQ]
    exact W.iret (v := (-101 : Int32)) hx hb hr (fun t ht hW => ⟨⟨(-101 : Int32), (), rfl, by rw [← h'], by rw [← hWQ, ← h', ht]; exact hP, va_K.moved hW.alike hK⟩, hS.F ht⟩) hS.2.2 dX8_print_9
set_option maxHeartbeats 8000000 in
set_option maxRecDepth 100000 in
theorem c_M_out (l : Launch) (dC : Nat → ClassId) (dI : Nat → Nat → Nat) (cy : Nat → ClassId) (ad : Nat → Nat) (sz : Nat) (a1 : Int32) (iM : Nat → Int32) (aM : Nat → Nat → Int32) (q : Int32) (h : f_M_out a1 (iM 73) (aM 72) = some q) : Met l yX8_out wsX8_out ({ frames := 1, cells := 0, slots := 0, locals := 25 } : Room) (cP (dC, dI) cy [.ref (ad 0), .int a1] (zzM ad cy iM aM) sz) (cQi (dC, dI) cy q (zzM ad cy iM aM) (va_A (zzM ad cy iM aM) sz)) 0 0 (va_A (zzM ad cy iM aM) sz) := by
  refine Met.ofW (cc := cX8_out) (maxL := 2) (ret := (some .int)) (by decide) rfl ?_
  intro p e s m args below meth c s₁ B hml hv
  obtain ⟨hav, hsz, hP, hK, hD0, hN⟩ := hv
  have hx := B.exec
  have hb := B.bytes
  have hr := B.returns
  have hts := atoms_spec (ws := wsX8_out) B.pre
  have hown : s.vm.findClass RX8 = some m.cls := findClass_of_methodNamed B.named
  have hlocks := B.notSynchronized
  subst hsz
  have hD := hD0.self (sz := s.heap.size)
  generalize hAe : va_A (zzM ad cy iM aM) s.heap.size = A at hD ⊢
  have hA : ∀ q : Nat, s.heap.size ≤ q → A q := fun q h => by rw [← hAe]; exact Or.inr h
  have hS : va_S A s.heap s.heap [] := va_S.rf
  generalize hWQ : (zzM ad cy iM aM) = WQ
  generalize hQQ : MQ below (cQi (dC, dI) cy q WQ A) args s 0 0 A = QQ
  have hl := lv_entry ([.ref (ad 0), .int a1] : List Value) (n := 2) (Nat.le_of_ble_eq_true rfl)
  have hfr := lg_entry_eq m ([.ref (ad 0), .int a1] : List Value) 2
  rw [← hav] at hfr
  rw [hfr]
  clear hfr hav
  generalize (lg_sl ([.ref (ad 0), .int a1] : List Value) ++ List.replicate (2 - (lg_sl ([.ref (ad 0), .int a1] : List Value)).length) Slot.unset).toArray = ls at hl ⊢
  have hl : lv_has ls 2 [(0, .ref (ad 0)), (1, .int a1)] := hl
  have kf402 := hts _ (List.mem_cons_of_mem _ m_fl_X8_402)
  have ki8 := (fun w h => List.mem_cons_of_mem _ (i_X8 w h) : ∀ w ∈ u_ws RX8 TX8 78, w ∈ wsX8_out)
  have kf135 := hts _ (List.mem_cons_of_mem _ m_fl_X8_135)
  refine (?_ : ∀ (H : Heap) (locs : List Loc), va_P (dC, dI) vwCl (zzM ad cy iM aM) H → va_D A (zzM ad cy iM aM) → va_S A s.heap H locs → W p l e ({ frames := 1, cells := 0, slots := 0, locals := 25 } : Room) s m args below meth c H locs 0 0 QQ (F0 m 0 ls [])) s.heap [] hP hD hS
  clear hP hD hS
  intro H locs hP hD hS
  unfold f_M_out at h
  refine lv_iload_n hx hb dX8_out_0 rfl (lv_at hl 1 rfl) ?_
  refine lv_i2l (v := (a1).toInt64) hx hb dX8_out_1 rfl ?_
  refine lv_lconst (v := 0) hx hb dX8_out_2 (by decide) ?_
  refine lv_aload_n hx hb dX8_out_3 rfl (lv_at hl 0 rfl) ?_
  refine va_get (D := (dC, dI)) (ci := 8) (v := .int (iM 73)) (C := RX8) (T := TX8) (N := 78) hx hb hts ki8 hown hK hP 0 rfl rfl 73 (by decide) kf402 (fun _ h9 => h9) rfl dX8_out_4 ?_
  refine lv_iconst (v := 1) hx hb dX8_out_7 (by decide) ?_
  refine lv_isub hx hb dX8_out_8 ?_
  refine lv_i2l (v := (((iM 73) - (1 : Int32))).toInt64) hx hb dX8_out_9 rfl ?_
  obtain ⟨q10, e10, h⟩ := g_b h
  refine callSi (cc := cX8_out) (ws' := zzM ad cy iM aM) (As := [.long (a1).toInt64, .long ((0 : Int64)), .long ((((iM 73) - (1 : Int32))).toInt64)]) (rest := []) ⟨hx, hb, hml, hown, hts⟩ (c_M_in l dC dI cy ad H.size (a1).toInt64 ((0 : Int64)) ((((iM 73) - (1 : Int32))).toInt64) q10 e10) (va_cwS 3 hts (goodS m_ml_X8_154 m_st_X8_in m_in_X8 m_cd_X8_in) rfl rfl rfl (by decide +kernel) ⟨Nat.le_of_ble_eq_true rfl, Nat.le_of_ble_eq_true rfl⟩) hN hK hP hD hS hA [] [none, none, none, none, none, none, none, none, none, none, none, none, none, none, none, none, none, none, none, none, none, none, none, none, none, none, none, none, none, none, none, none, none, none, none, none, none, none, none, none, none, none, none, none] rfl rfl rfl rfl rfl rfl rfl hl.1 rfl (Nat.le_of_ble_eq_true rfl) dX8_out_10 ⟨Nat.zero_le _, Nat.zero_le _⟩ (fun H locs hP hD hS => ?_)
  refine lv_if_eq (tgt := 25) hx hb dX8_out_13 (by decide) (fun cz => ?_) (fun cz => ?_)
  · have h := g_t h cz
    refine lv_iconst (v := (-1)) hx hb dX8_out_25 (by decide) ?_
    have h' := Option.some.inj h
    rw [← hQQ]
    exact W.iret (v := (-1 : Int32)) hx hb hr (fun t ht hW => ⟨⟨(-1 : Int32), (), rfl, by rw [← h'], by rw [← hWQ, ht]; exact hP, va_K.moved hW.alike hK⟩, hS.F ht⟩) hS.2.2 dX8_out_26
  · have h := g_f h cz
    refine lv_aload_n hx hb dX8_out_16 rfl (lv_at hl 0 rfl) ?_
    refine va_get (D := (dC, dI)) (ci := 8) (v := .ref (ad 40)) (C := RX8) (T := TX8) (N := 78) hx hb hts ki8 hown hK hP 0 rfl rfl 72 (by decide) kf135 (fun _ h9 => h9) rfl dX8_out_17 ?_
    refine lv_iload_n hx hb dX8_out_20 rfl (lv_at hl 1 rfl) ?_
    obtain ⟨g_146, h⟩ := g_n h
    refine va_bald (f := (aM 72)) hx hb hK hP 40 1 rfl rfl g_146 dX8_out_21 ?_
    refine lv_goto (tgt := 26) hx hb dX8_out_22 (by decide) ?_
    have h' := Option.some.inj h
    rw [← hQQ]
    exact W.iret (v := ((aM 72) a1.toNatClampNeg)) hx hb hr (fun t ht hW => ⟨⟨((aM 72) a1.toNatClampNeg), (), rfl, by rw [← h'], by rw [← hWQ, ht]; exact hP, va_K.moved hW.alike hK⟩, hS.F ht⟩) hS.2.2 dX8_out_26
