def f_K_bitPattern (a0 : Int32) (a1 : Int32) : Option Int64 := if a0 = (0 : Int32) then (some (-6148914691236517206 : Int64)) else (if a0 = (1 : Int32) then (some (-3689348814741910324 : Int64)) else (if a0 = (2 : Int32) then (some (-1085102592571150096 : Int64)) else (if a0 = (3 : Int32) then (some (-71777214294589696 : Int64)) else (if a0 = (4 : Int32) then (some (-281470681808896 : Int64)) else (if a0 = (5 : Int32) then (some (-4294967296 : Int64)) else (if a0 ≤ (5 : Int32) then (some (0 : Int64)) else (if ((a1 >>> ((a0 - (6 : Int32)) &&& 31)) &&& (1 : Int32)) = (1 : Int32) then (some (-1 : Int64)) else (some (0 : Int64)))))))))
set_option maxHeartbeats 8000000 in
set_option maxRecDepth 100000 in
theorem c_K_bitPattern (l : Launch) (dC : Nat → ClassId) (dI : Nat → Nat → Nat) (cy : Nat → ClassId) (ad : Nat → Nat) (sz : Nat) (a0 : Int32) (a1 : Int32) (q : Int64) (h : f_K_bitPattern a0 a1 = some q) : Met l yX2_bitPattern wsX2_bitPattern ({ frames := 0, cells := 0, slots := 0, locals := 0 } : Room) (cP (dC, dI) cy [.int a0, .int a1] (zzE ad cy) sz) (cQl (dC, dI) cy q (zzE ad cy) (va_A (zzE ad cy) sz)) 0 0 (va_A (zzE ad cy) sz) := by
  refine Met.ofW (cc := cX2_bitPattern) (maxL := 2) (ret := (some .long)) (by decide) rfl ?_
  intro p e s m args below meth c s₁ B hml hv
  obtain ⟨hav, hsz, hP, hK, hD0, hN⟩ := hv
  have hx := B.exec
  have hb := B.bytes
  have hr := B.returns
  have hts := atoms_spec (ws := wsX2_bitPattern) B.pre
  have hown : s.vm.findClass RX2 = some m.cls := findClass_of_methodNamed B.named
  have hlocks := B.notSynchronized
  subst hsz
  have hD := hD0.self (sz := s.heap.size)
  generalize hAe : va_A (zzE ad cy) s.heap.size = A at hD ⊢
  have hA : ∀ q : Nat, s.heap.size ≤ q → A q := fun q h => by rw [← hAe]; exact Or.inr h
  have hS : va_S A s.heap s.heap [] := va_S.rf
  generalize hWQ : (zzE ad cy) = WQ
  generalize hQQ : MQ below (cQl (dC, dI) cy q WQ A) args s 0 0 A = QQ
  have hl := lv_entry ([.int a0, .int a1] : List Value) (n := 2) (Nat.le_of_ble_eq_true rfl)
  have hfr := lg_entry_eq m ([.int a0, .int a1] : List Value) 2
  rw [← hav] at hfr
  rw [hfr]
  clear hfr hav
  generalize (lg_sl ([.int a0, .int a1] : List Value) ++ List.replicate (2 - (lg_sl ([.int a0, .int a1] : List Value)).length) Slot.unset).toArray = ls at hl ⊢
  have hl : lv_has ls 2 [(0, .int a0), (1, .int a1)] := hl
  have kc132 := hts _ (List.mem_cons_of_mem _ m_kl_X2_132)
  have kc134 := hts _ (List.mem_cons_of_mem _ m_kl_X2_134)
  have kc136 := hts _ (List.mem_cons_of_mem _ m_kl_X2_136)
  have kc138 := hts _ (List.mem_cons_of_mem _ m_kl_X2_138)
  have kc140 := hts _ (List.mem_cons_of_mem _ m_kl_X2_140)
  have kc142 := hts _ (List.mem_cons_of_mem _ m_kl_X2_142)
  have kc88 := hts _ (List.mem_cons_of_mem _ m_kl_X2_88)
  refine (?_ : ∀ (H : Heap) (locs : List Loc), va_P (dC, dI) vwCl (zzE ad cy) H → va_D A (zzE ad cy) → va_S A s.heap H locs → W p l e ({ frames := 0, cells := 0, slots := 0, locals := 0 } : Room) s m args below meth c H locs 0 0 QQ (F0 m 0 ls [])) s.heap [] hP hD hS
  clear hP hD hS
  intro H locs hP hD hS
  unfold f_K_bitPattern at h
  refine lv_iload_n hx hb dX2_bitPattern_0 rfl (lv_at hl 0 rfl) ?_
  rcases Decidable.em (a0 = (0 : Int32)) with c0 | c0
  · have h := g_t h c0
    refine lv_tableIn (off := 39) (tgt := 40) hx hb dX2_bitPattern_1 (by rw [c0]; decide) (by rw [c0]; decide) (by rw [c0]; rfl) (by decide) ?_
    refine lv_ldc2 (v := (-6148914691236517206)) hx hb hown kc132 dX2_bitPattern_40 ?_
    have h' := Option.some.inj h
    rw [← hQQ]
    exact W.lret (v := (-6148914691236517206 : Int64)) hx hb hr (fun t ht hW => ⟨⟨(-6148914691236517206 : Int64), (), rfl, by rw [← h'], by rw [← hWQ, ht]; exact hP, va_K.moved hW.alike hK⟩, hS.F ht⟩) hS.2.2 dX2_bitPattern_43
  · have h := g_f h c0
    rcases Decidable.em (a0 = (1 : Int32)) with c1 | c1
    · have h := g_t h c1
      refine lv_tableIn (off := 43) (tgt := 44) hx hb dX2_bitPattern_1 (by rw [c1]; decide) (by rw [c1]; decide) (by rw [c1]; rfl) (by decide) ?_
      refine lv_ldc2 (v := (-3689348814741910324)) hx hb hown kc134 dX2_bitPattern_44 ?_
      have h' := Option.some.inj h
      rw [← hQQ]
      exact W.lret (v := (-3689348814741910324 : Int64)) hx hb hr (fun t ht hW => ⟨⟨(-3689348814741910324 : Int64), (), rfl, by rw [← h'], by rw [← hWQ, ht]; exact hP, va_K.moved hW.alike hK⟩, hS.F ht⟩) hS.2.2 dX2_bitPattern_47
    · have h := g_f h c1
      rcases Decidable.em (a0 = (2 : Int32)) with c2 | c2
      · have h := g_t h c2
        refine lv_tableIn (off := 47) (tgt := 48) hx hb dX2_bitPattern_1 (by rw [c2]; decide) (by rw [c2]; decide) (by rw [c2]; rfl) (by decide) ?_
        refine lv_ldc2 (v := (-1085102592571150096)) hx hb hown kc136 dX2_bitPattern_48 ?_
        have h' := Option.some.inj h
        rw [← hQQ]
        exact W.lret (v := (-1085102592571150096 : Int64)) hx hb hr (fun t ht hW => ⟨⟨(-1085102592571150096 : Int64), (), rfl, by rw [← h'], by rw [← hWQ, ht]; exact hP, va_K.moved hW.alike hK⟩, hS.F ht⟩) hS.2.2 dX2_bitPattern_51
      · have h := g_f h c2
        rcases Decidable.em (a0 = (3 : Int32)) with c3 | c3
        · have h := g_t h c3
          refine lv_tableIn (off := 51) (tgt := 52) hx hb dX2_bitPattern_1 (by rw [c3]; decide) (by rw [c3]; decide) (by rw [c3]; rfl) (by decide) ?_
          refine lv_ldc2 (v := (-71777214294589696)) hx hb hown kc138 dX2_bitPattern_52 ?_
          have h' := Option.some.inj h
          rw [← hQQ]
          exact W.lret (v := (-71777214294589696 : Int64)) hx hb hr (fun t ht hW => ⟨⟨(-71777214294589696 : Int64), (), rfl, by rw [← h'], by rw [← hWQ, ht]; exact hP, va_K.moved hW.alike hK⟩, hS.F ht⟩) hS.2.2 dX2_bitPattern_55
        · have h := g_f h c3
          rcases Decidable.em (a0 = (4 : Int32)) with c4 | c4
          · have h := g_t h c4
            refine lv_tableIn (off := 55) (tgt := 56) hx hb dX2_bitPattern_1 (by rw [c4]; decide) (by rw [c4]; decide) (by rw [c4]; rfl) (by decide) ?_
            refine lv_ldc2 (v := (-281470681808896)) hx hb hown kc140 dX2_bitPattern_56 ?_
            have h' := Option.some.inj h
            rw [← hQQ]
            exact W.lret (v := (-281470681808896 : Int64)) hx hb hr (fun t ht hW => ⟨⟨(-281470681808896 : Int64), (), rfl, by rw [← h'], by rw [← hWQ, ht]; exact hP, va_K.moved hW.alike hK⟩, hS.F ht⟩) hS.2.2 dX2_bitPattern_59
          · have h := g_f h c4
            rcases Decidable.em (a0 = (5 : Int32)) with c5 | c5
            · have h := g_t h c5
              refine lv_tableIn (off := 59) (tgt := 60) hx hb dX2_bitPattern_1 (by rw [c5]; decide) (by rw [c5]; decide) (by rw [c5]; rfl) (by decide) ?_
              refine lv_ldc2 (v := (-4294967296)) hx hb hown kc142 dX2_bitPattern_60 ?_
              have h' := Option.some.inj h
              rw [← hQQ]
              exact W.lret (v := (-4294967296 : Int64)) hx hb hr (fun t ht hW => ⟨⟨(-4294967296 : Int64), (), rfl, by rw [← h'], by rw [← hWQ, ht]; exact hP, va_K.moved hW.alike hK⟩, hS.F ht⟩) hS.2.2 dX2_bitPattern_63
            · have h := g_f h c5
              refine lv_tableOut (tgt := 64) hx hb dX2_bitPattern_1 (by have z0 := tne (n := 0) (by decide) c0; have z1 := tne (n := 1) (by decide) c1; have z2 := tne (n := 2) (by decide) c2; have z3 := tne (n := 3) (by decide) c3; have z4 := tne (n := 4) (by decide) c4; have z5 := tne (n := 5) (by decide) c5; omega) (by decide) ?_
              refine lv_iload_n hx hb dX2_bitPattern_64 rfl (lv_at hl 0 rfl) ?_
              refine lv_iconst (v := 5) hx hb dX2_bitPattern_65 (by decide) ?_
              refine lv_icmp_le (tgt := 87) hx hb dX2_bitPattern_66 (by decide) (fun cz => ?_) (fun cz => ?_)
              · have h := g_t h cz
                refine lv_lconst (v := 0) hx hb dX2_bitPattern_87 (by decide) ?_
                have h' := Option.some.inj h
                rw [← hQQ]
                exact W.lret (v := (0 : Int64)) hx hb hr (fun t ht hW => ⟨⟨(0 : Int64), (), rfl, by rw [← h'], by rw [← hWQ, ht]; exact hP, va_K.moved hW.alike hK⟩, hS.F ht⟩) hS.2.2 dX2_bitPattern_88
              · have h := g_f h cz
                refine lv_iload_n hx hb dX2_bitPattern_69 rfl (lv_at hl 1 rfl) ?_
                refine lv_iload_n hx hb dX2_bitPattern_70 rfl (lv_at hl 0 rfl) ?_
                refine lv_bipush (v := 6) hx hb dX2_bitPattern_71 (by decide) ?_
                refine lv_isub hx hb dX2_bitPattern_73 ?_
                refine lv_ishr hx hb dX2_bitPattern_74 ?_
                refine lv_iconst (v := 1) hx hb dX2_bitPattern_75 (by decide) ?_
                refine lv_iand hx hb dX2_bitPattern_76 ?_
                refine lv_iconst (v := 1) hx hb dX2_bitPattern_77 (by decide) ?_
                refine lv_icmp_ne (tgt := 87) hx hb dX2_bitPattern_78 (by decide) (fun cz => ?_) (fun cz => ?_)
                · have h := g_f h cz
                  refine lv_lconst (v := 0) hx hb dX2_bitPattern_87 (by decide) ?_
                  have h' := Option.some.inj h
                  rw [← hQQ]
                  exact W.lret (v := (0 : Int64)) hx hb hr (fun t ht hW => ⟨⟨(0 : Int64), (), rfl, by rw [← h'], by rw [← hWQ, ht]; exact hP, va_K.moved hW.alike hK⟩, hS.F ht⟩) hS.2.2 dX2_bitPattern_88
                · have h := g_t h cz
                  refine lv_ldc2 (v := (-1)) hx hb hown kc88 dX2_bitPattern_81 ?_
                  refine lv_goto (tgt := 88) hx hb dX2_bitPattern_84 (by decide) ?_
                  have h' := Option.some.inj h
                  rw [← hQQ]
                  exact W.lret (v := (-1 : Int64)) hx hb hr (fun t ht hW => ⟨⟨(-1 : Int64), (), rfl, by rw [← h'], by rw [← hWQ, ht]; exact hP, va_K.moved hW.alike hK⟩, hS.F ht⟩) hS.2.2 dX2_bitPattern_88
