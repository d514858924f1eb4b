def f_M_count (N : Nat) (a1 : Int32) (iM14 : Int32) (iM20 : Int32) (iM22 : Int32) (iM25 : Int32) (iM28 : Int32) (iM36 : Int32) (iM37 : Int32) (iM64 : Int32) (iM65 : Int32) (iM66 : Int32) (iM68 : Int32) (iM73 : Int32) (aM62 : Nat → Int32) : Option Int32 := if a1 = (11 : Int32) then (some iM73) else (if iM37 = 0 then (some (-101 : Int32)) else (if a1 = (0 : Int32) then (some iM25) else (if a1 = (1 : Int32) then (some iM28) else (if a1 = (2 : Int32) then (some iM20) else (if a1 = (3 : Int32) then (some iM22) else (if a1 = (4 : Int32) then (some iM14) else (if a1 = (5 : Int32) then (some iM36) else (if a1 = (6 : Int32) then (some iM64) else (if a1 = (7 : Int32) then ((f_M_standing N iM36 aM62).bind fun q116 => (some q116)) else (if a1 = (8 : Int32) then (some iM65) else (if a1 = (9 : Int32) then (some iM66) else (if a1 = (10 : Int32) then (some iM68) else (some (-103 : Int32))))))))))))))
set_option maxHeartbeats 8000000 in
set_option maxRecDepth 100000 in
theorem c_M_count (l : Launch) (dC : Nat → ClassId) (dI : Nat → Nat → Nat) (cy : Nat → ClassId) (ad : Nat → Nat) (sz : Nat) (N : Nat) (a1 : Int32) (iM : Nat → Int32) (aM : Nat → Nat → Int32) (q : Int32) (h : f_M_count N a1 (iM 14) (iM 20) (iM 22) (iM 25) (iM 28) (iM 36) (iM 37) (iM 64) (iM 65) (iM 66) (iM 68) (iM 73) (aM 62) = some q) : Met l yX8_count wsX8_count ({ frames := 2, cells := 0, slots := 0, locals := 42 } : Room) (cP (dC, dI) cy [.ref (ad 0), .int a1] (zzM ad cy iM aM) sz) (cQi (dC, dI) cy q (zzM ad cy iM aM) (va_A (zzM ad cy iM aM) sz)) 0 0 (va_A (zzM ad cy iM aM) sz) := by
  refine Met.ofW (cc := cX8_count) (maxL := 2) (ret := (some .int)) (by decide) rfl ?_
  intro p e s m args below meth c s₁ B hml hv
  obtain ⟨hav, hsz, hP, hK, hD0, hN⟩ := hv
  have hx := B.exec
  have hb := B.bytes
  have hr := B.returns
  have hts := atoms_spec (ws := wsX8_count) B.pre
  have hown : s.vm.findClass RX8 = some m.cls := findClass_of_methodNamed B.named
  have hlocks := B.notSynchronized
  subst hsz
  have hD := hD0.self (sz := s.heap.size)
  generalize hAe : va_A (zzM ad cy iM aM) s.heap.size = A at hD ⊢
  have hA : ∀ q : Nat, s.heap.size ≤ q → A q := fun q h => by rw [← hAe]; exact Or.inr h
  have hS : va_S A s.heap s.heap [] := va_S.rf
  generalize hWQ : (zzM ad cy iM aM) = WQ
  generalize hQQ : MQ below (cQi (dC, dI) cy q WQ A) args s 0 0 A = QQ
  have hl := lv_entry ([.ref (ad 0), .int a1] : List Value) (n := 2) (Nat.le_of_ble_eq_true rfl)
  have hfr := lg_entry_eq m ([.ref (ad 0), .int a1] : List Value) 2
  rw [← hav] at hfr
  rw [hfr]
  clear hfr hav
  generalize (lg_sl ([.ref (ad 0), .int a1] : List Value) ++ List.replicate (2 - (lg_sl ([.ref (ad 0), .int a1] : List Value)).length) Slot.unset).toArray = ls at hl ⊢
  have hl : lv_has ls 2 [(0, .ref (ad 0)), (1, .int a1)] := hl
  have kf356 := hts _ (List.mem_cons_of_mem _ m_fl_X8_356)
  have ki8 := (fun w h => List.mem_cons_of_mem _ (i_X8 w h) : ∀ w ∈ u_ws RX8 TX8 78, w ∈ wsX8_count)
  have kf347 := hts _ (List.mem_cons_of_mem _ m_fl_X8_347)
  have kf350 := hts _ (List.mem_cons_of_mem _ m_fl_X8_350)
  have kf341 := hts _ (List.mem_cons_of_mem _ m_fl_X8_341)
  have kf344 := hts _ (List.mem_cons_of_mem _ m_fl_X8_344)
  have kf332 := hts _ (List.mem_cons_of_mem _ m_fl_X8_332)
  have kf353 := hts _ (List.mem_cons_of_mem _ m_fl_X8_353)
  have kf389 := hts _ (List.mem_cons_of_mem _ m_fl_X8_389)
  have kf392 := hts _ (List.mem_cons_of_mem _ m_fl_X8_392)
  have kf359 := hts _ (List.mem_cons_of_mem _ m_fl_X8_359)
  have kf362 := hts _ (List.mem_cons_of_mem _ m_fl_X8_362)
  have kf402 := hts _ (List.mem_cons_of_mem _ m_fl_X8_402)
  refine (?_ : ∀ (H : Heap) (locs : List Loc), va_P (dC, dI) vwCl (zzM ad cy iM aM) H → va_D A (zzM ad cy iM aM) → va_S A s.heap H locs → W p l e ({ frames := 2, cells := 0, slots := 0, locals := 42 } : Room) s m args below meth c H locs 0 0 QQ (F0 m 0 ls [])) s.heap [] hP hD hS
  clear hP hD hS
  intro H locs hP hD hS
  unfold f_M_count at h
  refine lv_iload_n hx hb dX8_count_0 rfl (lv_at hl 1 rfl) ?_
  refine lv_bipush (v := 11) hx hb dX8_count_1 (by decide) ?_
  refine lv_icmp_ne (tgt := 11) hx hb dX8_count_3 (by decide) (fun cz => ?_) (fun cz => ?_)
  · have h := g_f h cz
    refine lv_aload_n hx hb dX8_count_11 rfl (lv_at hl 0 rfl) ?_
    refine va_get (D := (dC, dI)) (ci := 8) (v := .int (iM 37)) (C := RX8) (T := TX8) (N := 78) hx hb hts ki8 hown hK hP 0 rfl rfl 37 (by decide) kf356 (fun _ h9 => h9) rfl dX8_count_12 ?_
    refine lv_if_ne (tgt := 21) hx hb dX8_count_15 (by decide) (fun cz => ?_) (fun cz => ?_)
    · have h := g_f h cz
      refine lv_iload_n hx hb dX8_count_21 rfl (lv_at hl 1 rfl) ?_
      rcases Decidable.em (a1 = (0 : Int32)) with c0 | c0
      · have h := g_t h c0
        refine lv_tableIn (off := 58) (tgt := 80) hx hb dX8_count_22 (by rw [c0]; decide) (by rw [c0]; decide) (by rw [c0]; rfl) (by decide) ?_
        refine lv_aload_n hx hb dX8_count_80 rfl (lv_at hl 0 rfl) ?_
        refine va_get (D := (dC, dI)) (ci := 8) (v := .int (iM 25)) (C := RX8) (T := TX8) (N := 78) hx hb hts ki8 hown hK hP 0 rfl rfl 25 (by decide) kf347 (fun _ h9 => h9) rfl dX8_count_81 ?_
        have h' := Option.some.inj h
        rw [← hQQ]
        exact W.iret (v := (iM 25)) hx hb hr (fun t ht hW => ⟨⟨(iM 25), (), rfl, by rw [← h'], by rw [← hWQ, ht]; exact hP, va_K.moved hW.alike hK⟩, hS.F ht⟩) hS.2.2 dX8_count_84
      · have h := g_f h c0
        rcases Decidable.em (a1 = (1 : Int32)) with c1 | c1
        · have h := g_t h c1
          refine lv_tableIn (off := 63) (tgt := 85) hx hb dX8_count_22 (by rw [c1]; decide) (by rw [c1]; decide) (by rw [c1]; rfl) (by decide) ?_
          refine lv_aload_n hx hb dX8_count_85 rfl (lv_at hl 0 rfl) ?_
          refine va_get (D := (dC, dI)) (ci := 8) (v := .int (iM 28)) (C := RX8) (T := TX8) (N := 78) hx hb hts ki8 hown hK hP 0 rfl rfl 28 (by decide) kf350 (fun _ h9 => h9) rfl dX8_count_86 ?_
          have h' := Option.some.inj h
          rw [← hQQ]
          exact W.iret (v := (iM 28)) hx hb hr (fun t ht hW => ⟨⟨(iM 28), (), rfl, by rw [← h'], by rw [← hWQ, ht]; exact hP, va_K.moved hW.alike hK⟩, hS.F ht⟩) hS.2.2 dX8_count_89
        · have h := g_f h c1
          rcases Decidable.em (a1 = (2 : Int32)) with c2 | c2
          · have h := g_t h c2
            refine lv_tableIn (off := 68) (tgt := 90) hx hb dX8_count_22 (by rw [c2]; decide) (by rw [c2]; decide) (by rw [c2]; rfl) (by decide) ?_
            refine lv_aload_n hx hb dX8_count_90 rfl (lv_at hl 0 rfl) ?_
            refine va_get (D := (dC, dI)) (ci := 8) (v := .int (iM 20)) (C := RX8) (T := TX8) (N := 78) hx hb hts ki8 hown hK hP 0 rfl rfl 20 (by decide) kf341 (fun _ h9 => h9) rfl dX8_count_91 ?_
            have h' := Option.some.inj h
            rw [← hQQ]
            exact W.iret (v := (iM 20)) hx hb hr (fun t ht hW => ⟨⟨(iM 20), (), rfl, by rw [← h'], by rw [← hWQ, ht]; exact hP, va_K.moved hW.alike hK⟩, hS.F ht⟩) hS.2.2 dX8_count_94
          · have h := g_f h c2
            rcases Decidable.em (a1 = (3 : Int32)) with c3 | c3
            · have h := g_t h c3
              refine lv_tableIn (off := 73) (tgt := 95) hx hb dX8_count_22 (by rw [c3]; decide) (by rw [c3]; decide) (by rw [c3]; rfl) (by decide) ?_
              refine lv_aload_n hx hb dX8_count_95 rfl (lv_at hl 0 rfl) ?_
              refine va_get (D := (dC, dI)) (ci := 8) (v := .int (iM 22)) (C := RX8) (T := TX8) (N := 78) hx hb hts ki8 hown hK hP 0 rfl rfl 22 (by decide) kf344 (fun _ h9 => h9) rfl dX8_count_96 ?_
              have h' := Option.some.inj h
              rw [← hQQ]
              exact W.iret (v := (iM 22)) hx hb hr (fun t ht hW => ⟨⟨(iM 22), (), rfl, by rw [← h'], by rw [← hWQ, ht]; exact hP, va_K.moved hW.alike hK⟩, hS.F ht⟩) hS.2.2 dX8_count_99
            · have h := g_f h c3
              rcases Decidable.em (a1 = (4 : Int32)) with c4 | c4
              · have h := g_t h c4
                refine lv_tableIn (off := 78) (tgt := 100) hx hb dX8_count_22 (by rw [c4]; decide) (by rw [c4]; decide) (by rw [c4]; rfl) (by decide) ?_
                refine lv_aload_n hx hb dX8_count_100 rfl (lv_at hl 0 rfl) ?_
                refine va_get (D := (dC, dI)) (ci := 8) (v := .int (iM 14)) (C := RX8) (T := TX8) (N := 78) hx hb hts ki8 hown hK hP 0 rfl rfl 14 (by decide) kf332 (fun _ h9 => h9) rfl dX8_count_101 ?_
                have h' := Option.some.inj h
                rw [← hQQ]
                exact W.iret (v := (iM 14)) hx hb hr (fun t ht hW => ⟨⟨(iM 14), (), rfl, by rw [← h'], by rw [← hWQ, ht]; exact hP, va_K.moved hW.alike hK⟩, hS.F ht⟩) hS.2.2 dX8_count_104
              · have h := g_f h c4
                rcases Decidable.em (a1 = (5 : Int32)) with c5 | c5
                · have h := g_t h c5
                  refine lv_tableIn (off := 83) (tgt := 105) hx hb dX8_count_22 (by rw [c5]; decide) (by rw [c5]; decide) (by rw [c5]; rfl) (by decide) ?_
                  refine lv_aload_n hx hb dX8_count_105 rfl (lv_at hl 0 rfl) ?_
                  refine va_get (D := (dC, dI)) (ci := 8) (v := .int (iM 36)) (C := RX8) (T := TX8) (N := 78) hx hb hts ki8 hown hK hP 0 rfl rfl 36 (by decide) kf353 (fun _ h9 => h9) rfl dX8_count_106 ?_
                  have h' := Option.some.inj h
                  rw [← hQQ]
                  exact W.iret (v := (iM 36)) hx hb hr (fun t ht hW => ⟨⟨(iM 36), (), rfl, by rw [← h'], by rw [← hWQ, ht]; exact hP, va_K.moved hW.alike hK⟩, hS.F ht⟩) hS.2.2 dX8_count_109
                · have h := g_f h c5
                  rcases Decidable.em (a1 = (6 : Int32)) with c6 | c6
                  · have h := g_t h c6
                    refine lv_tableIn (off := 88) (tgt := 110) hx hb dX8_count_22 (by rw [c6]; decide) (by rw [c6]; decide) (by rw [c6]; rfl) (by decide) ?_
                    refine lv_aload_n hx hb dX8_count_110 rfl (lv_at hl 0 rfl) ?_
                    refine va_get (D := (dC, dI)) (ci := 8) (v := .int (iM 64)) (C := RX8) (T := TX8) (N := 78) hx hb hts ki8 hown hK hP 0 rfl rfl 64 (by decide) kf389 (fun _ h9 => h9) rfl dX8_count_111 ?_
                    have h' := Option.some.inj h
                    rw [← hQQ]
                    exact W.iret (v := (iM 64)) hx hb hr (fun t ht hW => ⟨⟨(iM 64), (), rfl, by rw [← h'], by rw [← hWQ, ht]; exact hP, va_K.moved hW.alike hK⟩, hS.F ht⟩) hS.2.2 dX8_count_114
                  · have h := g_f h c6
                    rcases Decidable.em (a1 = (7 : Int32)) with c7 | c7
                    · have h := g_t h c7
                      refine lv_tableIn (off := 93) (tgt := 115) hx hb dX8_count_22 (by rw [c7]; decide) (by rw [c7]; decide) (by rw [c7]; rfl) (by decide) ?_
                      refine lv_aload_n hx hb dX8_count_115 rfl (lv_at hl 0 rfl) ?_
                      obtain ⟨q116, e116, h⟩ := g_b h
                      refine callVis (cc := cX8_count) (w1 := zzM ad cy iM aM) (As := []) (rest := []) ⟨hx, hb, hml, hown, hts⟩ (c_M_standing l dC dI cy ad H.size N iM aM q116 e116) (cwV 0 hts (goodV m_ml_X8_405 m_im_X8_standing m_se_X8_standing m_in_X8 m_cd_X8_standing) rfl rfl rfl (by decide +kernel) ⟨Nat.le_of_ble_eq_true rfl, Nat.le_of_ble_eq_true rfl⟩) hN hK hP hD hS hA rfl 0 rfl rfl rfl hl.1 rfl (Nat.le_of_ble_eq_true rfl) dX8_count_116 ⟨Nat.zero_le _, Nat.zero_le _⟩ (fun H locs hP hD hS => ?_)
                      have h' := Option.some.inj h
                      rw [← hQQ]
                      exact W.iret (v := q116) hx hb hr (fun t ht hW => ⟨⟨q116, (), rfl, by rw [← h'], by rw [← hWQ, ht]; exact hP, va_K.moved hW.alike hK⟩, hS.F ht⟩) hS.2.2 dX8_count_119
                    · have h := g_f h c7
                      rcases Decidable.em (a1 = (8 : Int32)) with c8 | c8
                      · have h := g_t h c8
                        refine lv_tableIn (off := 98) (tgt := 120) hx hb dX8_count_22 (by rw [c8]; decide) (by rw [c8]; decide) (by rw [c8]; rfl) (by decide) ?_
                        refine lv_aload_n hx hb dX8_count_120 rfl (lv_at hl 0 rfl) ?_
                        refine va_get (D := (dC, dI)) (ci := 8) (v := .int (iM 65)) (C := RX8) (T := TX8) (N := 78) hx hb hts ki8 hown hK hP 0 rfl rfl 65 (by decide) kf392 (fun _ h9 => h9) rfl dX8_count_121 ?_
                        have h' := Option.some.inj h
                        rw [← hQQ]
                        exact W.iret (v := (iM 65)) hx hb hr (fun t ht hW => ⟨⟨(iM 65), (), rfl, by rw [← h'], by rw [← hWQ, ht]; exact hP, va_K.moved hW.alike hK⟩, hS.F ht⟩) hS.2.2 dX8_count_124
                      · have h := g_f h c8
                        rcases Decidable.em (a1 = (9 : Int32)) with c9 | c9
                        · have h := g_t h c9
                          refine lv_tableIn (off := 103) (tgt := 125) hx hb dX8_count_22 (by rw [c9]; decide) (by rw [c9]; decide) (by rw [c9]; rfl) (by decide) ?_
                          refine lv_aload_n hx hb dX8_count_125 rfl (lv_at hl 0 rfl) ?_
                          refine va_get (D := (dC, dI)) (ci := 8) (v := .int (iM 66)) (C := RX8) (T := TX8) (N := 78) hx hb hts ki8 hown hK hP 0 rfl rfl 66 (by decide) kf359 (fun _ h9 => h9) rfl dX8_count_126 ?_
                          have h' := Option.some.inj h
                          rw [← hQQ]
                          exact W.iret (v := (iM 66)) hx hb hr (fun t ht hW => ⟨⟨(iM 66), (), rfl, by rw [← h'], by rw [← hWQ, ht]; exact hP, va_K.moved hW.alike hK⟩, hS.F ht⟩) hS.2.2 dX8_count_129
                        · have h := g_f h c9
                          rcases Decidable.em (a1 = (10 : Int32)) with c10 | c10
                          · have h := g_t h c10
                            refine lv_tableIn (off := 108) (tgt := 130) hx hb dX8_count_22 (by rw [c10]; decide) (by rw [c10]; decide) (by rw [c10]; rfl) (by decide) ?_
                            refine lv_aload_n hx hb dX8_count_130 rfl (lv_at hl 0 rfl) ?_
                            refine va_get (D := (dC, dI)) (ci := 8) (v := .int (iM 68)) (C := RX8) (T := TX8) (N := 78) hx hb hts ki8 hown hK hP 0 rfl rfl 68 (by decide) kf362 (fun _ h9 => h9) rfl dX8_count_131 ?_
                            have h' := Option.some.inj h
                            rw [← hQQ]
                            exact W.iret (v := (iM 68)) hx hb hr (fun t ht hW => ⟨⟨(iM 68), (), rfl, by rw [← h'], by rw [← hWQ, ht]; exact hP, va_K.moved hW.alike hK⟩, hS.F ht⟩) hS.2.2 dX8_count_134
                          · have h := g_f h c10
                            refine lv_tableOut (tgt := 135) hx hb dX8_count_22 (by have z0 := tne (n := 0) (by decide) c0; have z1 := tne (n := 1) (by decide) c1; have z2 := tne (n := 2) (by decide) c2; have z3 := tne (n := 3) (by decide) c3; have z4 := tne (n := 4) (by decide) c4; have z5 := tne (n := 5) (by decide) c5; have z6 := tne (n := 6) (by decide) c6; have z7 := tne (n := 7) (by decide) c7; have z8 := tne (n := 8) (by decide) c8; have z9 := tne (n := 9) (by decide) c9; have z10 := tne (n := 10) (by decide) c10; omega) (by decide) ?_
                            refine lv_bipush (v := (-103)) hx hb dX8_count_135 (by decide) ?_
                            have h' := Option.some.inj h
                            rw [← hQQ]
                            exact W.iret (v := (-103 : Int32)) hx hb hr (fun t ht hW => ⟨⟨(-103 : Int32), (), rfl, by rw [← h'], by rw [← hWQ, ht]; exact hP, va_K.moved hW.alike hK⟩, hS.F ht⟩) hS.2.2 dX8_count_137
    · have h := g_t h cz
      refine lv_bipush (v := (-101)) hx hb dX8_count_18 (by decide) ?_
      have h' := Option.some.inj h
      rw [← hQQ]
      exact W.iret (v := (-101 : Int32)) hx hb hr (fun t ht hW => ⟨⟨(-101 : Int32), (), rfl, by rw [← h'], by rw [← hWQ, ht]; exact hP, va_K.moved hW.alike hK⟩, hS.F ht⟩) hS.2.2 dX8_count_20
  · have h := g_t h cz
    refine lv_aload_n hx hb dX8_count_6 rfl (lv_at hl 0 rfl) ?_
    refine va_get (D := (dC, dI)) (ci := 8) (v := .int (iM 73)) (C := RX8) (T := TX8) (N := 78) hx hb hts ki8 hown hK hP 0 rfl rfl 73 (by decide) kf402 (fun _ h9 => h9) rfl dX8_count_7 ?_
    have h' := Option.some.inj h
    rw [← hQQ]
    exact W.iret (v := (iM 73)) hx hb hr (fun t ht hW => ⟨⟨(iM 73), (), rfl, by rw [← h'], by rw [← hWQ, ht]; exact hP, va_K.moved hW.alike hK⟩, hS.F ht⟩) hS.2.2 dX8_count_10
