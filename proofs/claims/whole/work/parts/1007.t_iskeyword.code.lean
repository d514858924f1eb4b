def f_T_isKeyword (a0 : Int64) : Option Int32 := if a0 = (6386539 : Int64) then (some (1 : Int32)) else (if a0 = (504363246962 : Int64) then (some (1 : Int32)) else (if a0 = (126896661032037 : Int64) then (some (1 : Int32)) else (if a0 = (28530 : Int64) then (some (1 : Int32)) else (if a0 = (6385252 : Int64) then (some (1 : Int32)) else (if a0 = (7237492 : Int64) then (some (1 : Int32)) else (if a0 = (1936682341 : Int64) then (some (1 : Int32)) else (if a0 = (435778056825 : Int64) then (some (1 : Int32)) else (if a0 = (7630704 : Int64) then (some (1 : Int32)) else (if a0 = (108230834679661 : Int64) then (some (1 : Int32)) else (some (0 : Int32)))))))))))
set_option maxHeartbeats 8000000 in
set_option maxRecDepth 100000 in
theorem c_T_isKeyword (l : Launch) (dC : Nat → ClassId) (dI : Nat → Nat → Nat) (cy : Nat → ClassId) (ad : Nat → Nat) (sz : Nat) (a0 : Int64) (q : Int32) (h : f_T_isKeyword a0 = some q) : Met l yX5_isKeyword wsX5_isKeyword ({ frames := 0, cells := 0, slots := 0, locals := 0 } : Room) (cP (dC, dI) cy [.long a0] (zzE ad cy) sz) (cQi (dC, dI) cy q (zzE ad cy) (va_A (zzE ad cy) sz)) 0 0 (va_A (zzE ad cy) sz) := by
  refine Met.ofW (cc := cX5_isKeyword) (maxL := 2) (ret := (some .boolean)) (by decide) rfl ?_
  intro p e s m args below meth c s₁ B hml hv
  obtain ⟨hav, hsz, hP, hK, hD0, hN⟩ := hv
  have hx := B.exec
  have hb := B.bytes
  have hr := B.returns
  have hts := atoms_spec (ws := wsX5_isKeyword) B.pre
  have hown : s.vm.findClass RX5 = some m.cls := findClass_of_methodNamed B.named
  have hlocks := B.notSynchronized
  subst hsz
  have hD := hD0.self (sz := s.heap.size)
  generalize hAe : va_A (zzE ad cy) s.heap.size = A at hD ⊢
  have hA : ∀ q : Nat, s.heap.size ≤ q → A q := fun q h => by rw [← hAe]; exact Or.inr h
  have hS : va_S A s.heap s.heap [] := va_S.rf
  generalize hWQ : (zzE ad cy) = WQ
  generalize hQQ : MQ below (cQi (dC, dI) cy q WQ A) args s 0 0 A = QQ
  have hl := lv_entry ([.long a0] : List Value) (n := 2) (Nat.le_of_ble_eq_true rfl)
  have hfr := lg_entry_eq m ([.long a0] : List Value) 2
  rw [← hav] at hfr
  rw [hfr]
  clear hfr hav
  generalize (lg_sl ([.long a0] : List Value) ++ List.replicate (2 - (lg_sl ([.long a0] : List Value)).length) Slot.unset).toArray = ls at hl ⊢
  have hl : lv_has ls 2 [(0, .long a0)] := hl
  have kc71 := hts _ (List.mem_cons_of_mem _ m_kl_X5_71)
  have kc73 := hts _ (List.mem_cons_of_mem _ m_kl_X5_73)
  have kc75 := hts _ (List.mem_cons_of_mem _ m_kl_X5_75)
  have kc77 := hts _ (List.mem_cons_of_mem _ m_kl_X5_77)
  have kc79 := hts _ (List.mem_cons_of_mem _ m_kl_X5_79)
  have kc81 := hts _ (List.mem_cons_of_mem _ m_kl_X5_81)
  have kc83 := hts _ (List.mem_cons_of_mem _ m_kl_X5_83)
  have kc85 := hts _ (List.mem_cons_of_mem _ m_kl_X5_85)
  have kc87 := hts _ (List.mem_cons_of_mem _ m_kl_X5_87)
  have kc89 := hts _ (List.mem_cons_of_mem _ m_kl_X5_89)
  refine (?_ : ∀ (H : Heap) (locs : List Loc), va_P (dC, dI) vwCl (zzE ad cy) H → va_D A (zzE ad cy) → va_S A s.heap H locs → W p l e ({ frames := 0, cells := 0, slots := 0, locals := 0 } : Room) s m args below meth c H locs 0 0 QQ (F0 m 0 ls [])) s.heap [] hP hD hS
  clear hP hD hS
  intro H locs hP hD hS
  unfold f_T_isKeyword at h
  refine lv_lload_n hx hb dX5_isKeyword_0 rfl (lv_at hl 0 rfl) ?_
  refine lv_ldc2 (v := 6386539) hx hb hown kc71 dX5_isKeyword_1 ?_
  refine W.lcmp hx hb dX5_isKeyword_4 ?_
  refine lv_if_eq (tgt := 80) hx hb dX5_isKeyword_5 (by decide) (fun cz => ?_) (fun cz => ?_)
  · have h := g_t h (lg_cmp0.mp cz)
    refine lv_iconst (v := 1) hx hb dX5_isKeyword_80 (by decide) ?_
    refine lv_goto (tgt := 85) hx hb dX5_isKeyword_81 (by decide) ?_
    have h' := Option.some.inj h
    rw [← hQQ]
    exact W.zret (v := (1 : Int32)) hx hb hr rfl (fun t ht hW => ⟨⟨(1 : Int32), (), rfl, by rw [← h'], by rw [← hWQ, ht]; exact hP, va_K.moved hW.alike hK⟩, hS.F ht⟩) hS.2.2 dX5_isKeyword_85
  · have h := g_f h (fun z => cz (lg_cmp0.mpr z))
    refine lv_lload_n hx hb dX5_isKeyword_8 rfl (lv_at hl 0 rfl) ?_
    refine lv_ldc2 (v := 504363246962) hx hb hown kc73 dX5_isKeyword_9 ?_
    refine W.lcmp hx hb dX5_isKeyword_12 ?_
    refine lv_if_eq (tgt := 80) hx hb dX5_isKeyword_13 (by decide) (fun cz => ?_) (fun cz => ?_)
    · have h := g_t h (lg_cmp0.mp cz)
      refine lv_iconst (v := 1) hx hb dX5_isKeyword_80 (by decide) ?_
      refine lv_goto (tgt := 85) hx hb dX5_isKeyword_81 (by decide) ?_
      have h' := Option.some.inj h
      rw [← hQQ]
      exact W.zret (v := (1 : Int32)) hx hb hr rfl (fun t ht hW => ⟨⟨(1 : Int32), (), rfl, by rw [← h'], by rw [← hWQ, ht]; exact hP, va_K.moved hW.alike hK⟩, hS.F ht⟩) hS.2.2 dX5_isKeyword_85
    · have h := g_f h (fun z => cz (lg_cmp0.mpr z))
      refine lv_lload_n hx hb dX5_isKeyword_16 rfl (lv_at hl 0 rfl) ?_
      refine lv_ldc2 (v := 126896661032037) hx hb hown kc75 dX5_isKeyword_17 ?_
      refine W.lcmp hx hb dX5_isKeyword_20 ?_
      refine lv_if_eq (tgt := 80) hx hb dX5_isKeyword_21 (by decide) (fun cz => ?_) (fun cz => ?_)
      · have h := g_t h (lg_cmp0.mp cz)
        refine lv_iconst (v := 1) hx hb dX5_isKeyword_80 (by decide) ?_
        refine lv_goto (tgt := 85) hx hb dX5_isKeyword_81 (by decide) ?_
        have h' := Option.some.inj h
        rw [← hQQ]
        exact W.zret (v := (1 : Int32)) hx hb hr rfl (fun t ht hW => ⟨⟨(1 : Int32), (), rfl, by rw [← h'], by rw [← hWQ, ht]; exact hP, va_K.moved hW.alike hK⟩, hS.F ht⟩) hS.2.2 dX5_isKeyword_85
      · have h := g_f h (fun z => cz (lg_cmp0.mpr z))
        refine lv_lload_n hx hb dX5_isKeyword_24 rfl (lv_at hl 0 rfl) ?_
        refine lv_ldc2 (v := 28530) hx hb hown kc77 dX5_isKeyword_25 ?_
        refine W.lcmp hx hb dX5_isKeyword_28 ?_
        refine lv_if_eq (tgt := 80) hx hb dX5_isKeyword_29 (by decide) (fun cz => ?_) (fun cz => ?_)
        · have h := g_t h (lg_cmp0.mp cz)
          refine lv_iconst (v := 1) hx hb dX5_isKeyword_80 (by decide) ?_
          refine lv_goto (tgt := 85) hx hb dX5_isKeyword_81 (by decide) ?_
          have h' := Option.some.inj h
          rw [← hQQ]
          exact W.zret (v := (1 : Int32)) hx hb hr rfl (fun t ht hW => ⟨⟨(1 : Int32), (), rfl, by rw [← h'], by rw [← hWQ, ht]; exact hP, va_K.moved hW.alike hK⟩, hS.F ht⟩) hS.2.2 dX5_isKeyword_85
        · have h := g_f h (fun z => cz (lg_cmp0.mpr z))
          refine lv_lload_n hx hb dX5_isKeyword_32 rfl (lv_at hl 0 rfl) ?_
          refine lv_ldc2 (v := 6385252) hx hb hown kc79 dX5_isKeyword_33 ?_
          refine W.lcmp hx hb dX5_isKeyword_36 ?_
          refine lv_if_eq (tgt := 80) hx hb dX5_isKeyword_37 (by decide) (fun cz => ?_) (fun cz => ?_)
          · have h := g_t h (lg_cmp0.mp cz)
            refine lv_iconst (v := 1) hx hb dX5_isKeyword_80 (by decide) ?_
            refine lv_goto (tgt := 85) hx hb dX5_isKeyword_81 (by decide) ?_
            have h' := Option.some.inj h
            rw [← hQQ]
            exact W.zret (v := (1 : Int32)) hx hb hr rfl (fun t ht hW => ⟨⟨(1 : Int32), (), rfl, by rw [← h'], by rw [← hWQ, ht]; exact hP, va_K.moved hW.alike hK⟩, hS.F ht⟩) hS.2.2 dX5_isKeyword_85
          · have h := g_f h (fun z => cz (lg_cmp0.mpr z))
            refine lv_lload_n hx hb dX5_isKeyword_40 rfl (lv_at hl 0 rfl) ?_
            refine lv_ldc2 (v := 7237492) hx hb hown kc81 dX5_isKeyword_41 ?_
            refine W.lcmp hx hb dX5_isKeyword_44 ?_
            refine lv_if_eq (tgt := 80) hx hb dX5_isKeyword_45 (by decide) (fun cz => ?_) (fun cz => ?_)
            · have h := g_t h (lg_cmp0.mp cz)
              refine lv_iconst (v := 1) hx hb dX5_isKeyword_80 (by decide) ?_
              refine lv_goto (tgt := 85) hx hb dX5_isKeyword_81 (by decide) ?_
              have h' := Option.some.inj h
              rw [← hQQ]
              exact W.zret (v := (1 : Int32)) hx hb hr rfl (fun t ht hW => ⟨⟨(1 : Int32), (), rfl, by rw [← h'], by rw [← hWQ, ht]; exact hP, va_K.moved hW.alike hK⟩, hS.F ht⟩) hS.2.2 dX5_isKeyword_85
            · have h := g_f h (fun z => cz (lg_cmp0.mpr z))
              refine lv_lload_n hx hb dX5_isKeyword_48 rfl (lv_at hl 0 rfl) ?_
              refine lv_ldc2 (v := 1936682341) hx hb hown kc83 dX5_isKeyword_49 ?_
              refine W.lcmp hx hb dX5_isKeyword_52 ?_
              refine lv_if_eq (tgt := 80) hx hb dX5_isKeyword_53 (by decide) (fun cz => ?_) (fun cz => ?_)
              · have h := g_t h (lg_cmp0.mp cz)
                refine lv_iconst (v := 1) hx hb dX5_isKeyword_80 (by decide) ?_
                refine lv_goto (tgt := 85) hx hb dX5_isKeyword_81 (by decide) ?_
                have h' := Option.some.inj h
                rw [← hQQ]
                exact W.zret (v := (1 : Int32)) hx hb hr rfl (fun t ht hW => ⟨⟨(1 : Int32), (), rfl, by rw [← h'], by rw [← hWQ, ht]; exact hP, va_K.moved hW.alike hK⟩, hS.F ht⟩) hS.2.2 dX5_isKeyword_85
              · have h := g_f h (fun z => cz (lg_cmp0.mpr z))
                refine lv_lload_n hx hb dX5_isKeyword_56 rfl (lv_at hl 0 rfl) ?_
                refine lv_ldc2 (v := 435778056825) hx hb hown kc85 dX5_isKeyword_57 ?_
                refine W.lcmp hx hb dX5_isKeyword_60 ?_
                refine lv_if_eq (tgt := 80) hx hb dX5_isKeyword_61 (by decide) (fun cz => ?_) (fun cz => ?_)
                · have h := g_t h (lg_cmp0.mp cz)
                  refine lv_iconst (v := 1) hx hb dX5_isKeyword_80 (by decide) ?_
                  refine lv_goto (tgt := 85) hx hb dX5_isKeyword_81 (by decide) ?_
                  have h' := Option.some.inj h
                  rw [← hQQ]
                  exact W.zret (v := (1 : Int32)) hx hb hr rfl (fun t ht hW => ⟨⟨(1 : Int32), (), rfl, by rw [← h'], by rw [← hWQ, ht]; exact hP, va_K.moved hW.alike hK⟩, hS.F ht⟩) hS.2.2 dX5_isKeyword_85
                · have h := g_f h (fun z => cz (lg_cmp0.mpr z))
                  refine lv_lload_n hx hb dX5_isKeyword_64 rfl (lv_at hl 0 rfl) ?_
                  refine lv_ldc2 (v := 7630704) hx hb hown kc87 dX5_isKeyword_65 ?_
                  refine W.lcmp hx hb dX5_isKeyword_68 ?_
                  refine lv_if_eq (tgt := 80) hx hb dX5_isKeyword_69 (by decide) (fun cz => ?_) (fun cz => ?_)
                  · have h := g_t h (lg_cmp0.mp cz)
                    refine lv_iconst (v := 1) hx hb dX5_isKeyword_80 (by decide) ?_
                    refine lv_goto (tgt := 85) hx hb dX5_isKeyword_81 (by decide) ?_
                    have h' := Option.some.inj h
                    rw [← hQQ]
                    exact W.zret (v := (1 : Int32)) hx hb hr rfl (fun t ht hW => ⟨⟨(1 : Int32), (), rfl, by rw [← h'], by rw [← hWQ, ht]; exact hP, va_K.moved hW.alike hK⟩, hS.F ht⟩) hS.2.2 dX5_isKeyword_85
                  · have h := g_f h (fun z => cz (lg_cmp0.mpr z))
                    refine lv_lload_n hx hb dX5_isKeyword_72 rfl (lv_at hl 0 rfl) ?_
                    refine lv_ldc2 (v := 108230834679661) hx hb hown kc89 dX5_isKeyword_73 ?_
                    refine W.lcmp hx hb dX5_isKeyword_76 ?_
                    refine lv_if_ne (tgt := 84) hx hb dX5_isKeyword_77 (by decide) (fun cz => ?_) (fun cz => ?_)
                    · have h := g_f h (fun z => cz (lg_cmp0.mpr z))
                      refine lv_iconst (v := 0) hx hb dX5_isKeyword_84 (by decide) ?_
                      have h' := Option.some.inj h
                      rw [← hQQ]
                      exact W.zret (v := (0 : Int32)) hx hb hr rfl (fun t ht hW => ⟨⟨(0 : Int32), (), rfl, by rw [← h'], by rw [← hWQ, ht]; exact hP, va_K.moved hW.alike hK⟩, hS.F ht⟩) hS.2.2 dX5_isKeyword_85
                    · have h := g_t h (lg_cmp0.mp cz)
                      refine lv_iconst (v := 1) hx hb dX5_isKeyword_80 (by decide) ?_
                      refine lv_goto (tgt := 85) hx hb dX5_isKeyword_81 (by decide) ?_
                      have h' := Option.some.inj h
                      rw [← hQQ]
                      exact W.zret (v := (1 : Int32)) hx hb hr rfl (fun t ht hW => ⟨⟨(1 : Int32), (), rfl, by rw [← h'], by rw [← hWQ, ht]; exact hP, va_K.moved hW.alike hK⟩, hS.F ht⟩) hS.2.2 dX5_isKeyword_85
