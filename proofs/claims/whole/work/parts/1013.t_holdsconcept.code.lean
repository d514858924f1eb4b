def f_T_holdsConcept (wT : Int64) : Option Int32 := if wT = (7237492 : Int64) then (some (1 : Int32)) else (if wT = (1936682341 : Int64) then (some (1 : Int32)) else (if wT = (435778056825 : Int64) then (some (1 : Int32)) else (if wT = (40 : Int64) then (some (1 : Int32)) else (some (0 : Int32)))))
set_option maxHeartbeats 8000000 in
set_option maxRecDepth 100000 in
theorem c_T_holdsConcept (l : Launch) (dC : Nat → ClassId) (dI : Nat → Nat → Nat) (cy : Nat → ClassId) (ad : Nat → Nat) (sz : Nat) (iT : Nat → Int32) (wT : Int64) (tx : Nat → Int32) (q : Int32) (h : f_T_holdsConcept wT = some q) : Met l yX5_holdsConcept wsX5_holdsConcept ({ frames := 0, cells := 0, slots := 0, locals := 0 } : Room) (cP (dC, dI) cy [.ref (ad 0)] (zzT ad cy iT wT tx) sz) (cQi (dC, dI) cy q (zzT ad cy iT wT tx) (va_A (zzT ad cy iT wT tx) sz)) 0 0 (va_A (zzT ad cy iT wT tx) sz) := by
  refine Met.ofW (cc := cX5_holdsConcept) (maxL := 1) (ret := (some .boolean)) (by decide) rfl ?_
  intro p e s m args below meth c s₁ B hml hv
  obtain ⟨hav, hsz, hP, hK, hD0, hN⟩ := hv
  have hx := B.exec
  have hb := B.bytes
  have hr := B.returns
  have hts := atoms_spec (ws := wsX5_holdsConcept) B.pre
  have hown : s.vm.findClass RX5 = some m.cls := findClass_of_methodNamed B.named
  have hlocks := B.notSynchronized
  subst hsz
  have hD := hD0.self (sz := s.heap.size)
  generalize hAe : va_A (zzT ad cy iT wT tx) s.heap.size = A at hD ⊢
  have hA : ∀ q : Nat, s.heap.size ≤ q → A q := fun q h => by rw [← hAe]; exact Or.inr h
  have hS : va_S A s.heap s.heap [] := va_S.rf
  generalize hWQ : (zzT ad cy iT wT tx) = WQ
  generalize hQQ : MQ below (cQi (dC, dI) cy q WQ A) args s 0 0 A = QQ
  have hl := lv_entry ([.ref (ad 0)] : List Value) (n := 1) (Nat.le_of_ble_eq_true rfl)
  have hfr := lg_entry_eq m ([.ref (ad 0)] : List Value) 1
  rw [← hav] at hfr
  rw [hfr]
  clear hfr hav
  generalize (lg_sl ([.ref (ad 0)] : List Value) ++ List.replicate (1 - (lg_sl ([.ref (ad 0)] : List Value)).length) Slot.unset).toArray = ls at hl ⊢
  have hl : lv_has ls 1 [(0, .ref (ad 0))] := hl
  have kf37 := hts _ (List.mem_cons_of_mem _ m_fl_X5_37)
  have ki5 := (fun w h => List.mem_cons_of_mem _ (i_X5 w h) : ∀ w ∈ u_ws RX5 TX5 6, w ∈ wsX5_holdsConcept)
  have kc81 := hts _ (List.mem_cons_of_mem _ m_kl_X5_81)
  have kc83 := hts _ (List.mem_cons_of_mem _ m_kl_X5_83)
  have kc85 := hts _ (List.mem_cons_of_mem _ m_kl_X5_85)
  have kc67 := hts _ (List.mem_cons_of_mem _ m_kl_X5_67)
  refine (?_ : ∀ (H : Heap) (locs : List Loc), va_P (dC, dI) vwCl (zzT ad cy iT wT tx) H → va_D A (zzT ad cy iT wT tx) → va_S A s.heap H locs → W p l e ({ frames := 0, cells := 0, slots := 0, locals := 0 } : Room) s m args below meth c H locs 0 0 QQ (F0 m 0 ls [])) s.heap [] hP hD hS
  clear hP hD hS
  intro H locs hP hD hS
  unfold f_T_holdsConcept at h
  refine lv_aload_n hx hb dX5_holdsConcept_0 rfl (lv_at hl 0 rfl) ?_
  refine va_get (D := (dC, dI)) (ci := 5) (v := .long wT) (C := RX5) (T := TX5) (N := 6) hx hb hts ki5 hown hK hP 0 rfl rfl 5 (by decide) kf37 (fun _ h9 => h9) rfl dX5_holdsConcept_1 ?_
  refine lv_ldc2 (v := 7237492) hx hb hown kc81 dX5_holdsConcept_4 ?_
  refine W.lcmp hx hb dX5_holdsConcept_7 ?_
  refine lv_if_eq (tgt := 44) hx hb dX5_holdsConcept_8 (by decide) (fun cz => ?_) (fun cz => ?_)
  · have h := g_t h (lg_cmp0.mp cz)
    refine lv_iconst (v := 1) hx hb dX5_holdsConcept_44 (by decide) ?_
    refine lv_goto (tgt := 49) hx hb dX5_holdsConcept_45 (by decide) ?_
    have h' := Option.some.inj h
    rw [← hQQ]
    exact W.zret (v := (1 : Int32)) hx hb hr rfl (fun t ht hW => ⟨⟨(1 : Int32), (), rfl, by rw [← h'], by rw [← hWQ, ht]; exact hP, va_K.moved hW.alike hK⟩, hS.F ht⟩) hS.2.2 dX5_holdsConcept_49
  · have h := g_f h (fun z => cz (lg_cmp0.mpr z))
    refine lv_aload_n hx hb dX5_holdsConcept_11 rfl (lv_at hl 0 rfl) ?_
    refine va_get (D := (dC, dI)) (ci := 5) (v := .long wT) (C := RX5) (T := TX5) (N := 6) hx hb hts ki5 hown hK hP 0 rfl rfl 5 (by decide) kf37 (fun _ h9 => h9) rfl dX5_holdsConcept_12 ?_
    refine lv_ldc2 (v := 1936682341) hx hb hown kc83 dX5_holdsConcept_15 ?_
    refine W.lcmp hx hb dX5_holdsConcept_18 ?_
    refine lv_if_eq (tgt := 44) hx hb dX5_holdsConcept_19 (by decide) (fun cz => ?_) (fun cz => ?_)
    · have h := g_t h (lg_cmp0.mp cz)
      refine lv_iconst (v := 1) hx hb dX5_holdsConcept_44 (by decide) ?_
      refine lv_goto (tgt := 49) hx hb dX5_holdsConcept_45 (by decide) ?_
      have h' := Option.some.inj h
      rw [← hQQ]
      exact W.zret (v := (1 : Int32)) hx hb hr rfl (fun t ht hW => ⟨⟨(1 : Int32), (), rfl, by rw [← h'], by rw [← hWQ, ht]; exact hP, va_K.moved hW.alike hK⟩, hS.F ht⟩) hS.2.2 dX5_holdsConcept_49
    · have h := g_f h (fun z => cz (lg_cmp0.mpr z))
      refine lv_aload_n hx hb dX5_holdsConcept_22 rfl (lv_at hl 0 rfl) ?_
      refine va_get (D := (dC, dI)) (ci := 5) (v := .long wT) (C := RX5) (T := TX5) (N := 6) hx hb hts ki5 hown hK hP 0 rfl rfl 5 (by decide) kf37 (fun _ h9 => h9) rfl dX5_holdsConcept_23 ?_
      refine lv_ldc2 (v := 435778056825) hx hb hown kc85 dX5_holdsConcept_26 ?_
      refine W.lcmp hx hb dX5_holdsConcept_29 ?_
      refine lv_if_eq (tgt := 44) hx hb dX5_holdsConcept_30 (by decide) (fun cz => ?_) (fun cz => ?_)
      · have h := g_t h (lg_cmp0.mp cz)
        refine lv_iconst (v := 1) hx hb dX5_holdsConcept_44 (by decide) ?_
        refine lv_goto (tgt := 49) hx hb dX5_holdsConcept_45 (by decide) ?_
        have h' := Option.some.inj h
        rw [← hQQ]
        exact W.zret (v := (1 : Int32)) hx hb hr rfl (fun t ht hW => ⟨⟨(1 : Int32), (), rfl, by rw [← h'], by rw [← hWQ, ht]; exact hP, va_K.moved hW.alike hK⟩, hS.F ht⟩) hS.2.2 dX5_holdsConcept_49
      · have h := g_f h (fun z => cz (lg_cmp0.mpr z))
        refine lv_aload_n hx hb dX5_holdsConcept_33 rfl (lv_at hl 0 rfl) ?_
        refine va_get (D := (dC, dI)) (ci := 5) (v := .long wT) (C := RX5) (T := TX5) (N := 6) hx hb hts ki5 hown hK hP 0 rfl rfl 5 (by decide) kf37 (fun _ h9 => h9) rfl dX5_holdsConcept_34 ?_
        refine lv_ldc2 (v := 40) hx hb hown kc67 dX5_holdsConcept_37 ?_
        refine W.lcmp hx hb dX5_holdsConcept_40 ?_
        refine lv_if_ne (tgt := 48) hx hb dX5_holdsConcept_41 (by decide) (fun cz => ?_) (fun cz => ?_)
        · have h := g_f h (fun z => cz (lg_cmp0.mpr z))
          refine lv_iconst (v := 0) hx hb dX5_holdsConcept_48 (by decide) ?_
          have h' := Option.some.inj h
          rw [← hQQ]
          exact W.zret (v := (0 : Int32)) hx hb hr rfl (fun t ht hW => ⟨⟨(0 : Int32), (), rfl, by rw [← h'], by rw [← hWQ, ht]; exact hP, va_K.moved hW.alike hK⟩, hS.F ht⟩) hS.2.2 dX5_holdsConcept_49
        · have h := g_t h (lg_cmp0.mp cz)
          refine lv_iconst (v := 1) hx hb dX5_holdsConcept_44 (by decide) ?_
          refine lv_goto (tgt := 49) hx hb dX5_holdsConcept_45 (by decide) ?_
          have h' := Option.some.inj h
          rw [← hQQ]
          exact W.zret (v := (1 : Int32)) hx hb hr rfl (fun t ht hW => ⟨⟨(1 : Int32), (), rfl, by rw [← h'], by rw [← hWQ, ht]; exact hP, va_K.moved hW.alike hK⟩, hS.F ht⟩) hS.2.2 dX5_holdsConcept_49
