def f_M_goesTo (a1 : Int32) (a2 : Int32) (a3 : Int32) (aM58 : Nat → Int32) (aM59 : Nat → Int32) : Option Int32 := if a3 < 0 ∨ 512 ≤ a3.toNatClampNeg then none else (if a2 < 0 ∨ 3 ≤ a2.toNatClampNeg then none else (if (((aM58 a3.toNatClampNeg) &&& (aM59 a2.toNatClampNeg)) &&& (a1 ^^^ (-1 : Int32))) = 0 then (some (1 : Int32)) else (some (0 : Int32))))
set_option maxHeartbeats 8000000 in
set_option maxRecDepth 100000 in
theorem c_M_goesTo (l : Launch) (dC : Nat → ClassId) (dI : Nat → Nat → Nat) (cy : Nat → ClassId) (ad : Nat → Nat) (sz : Nat) (a1 : Int32) (a2 : Int32) (a3 : Int32) (iM : Nat → Int32) (aM : Nat → Nat → Int32) (q : Int32) (h : f_M_goesTo a1 a2 a3 (aM 58) (aM 59) = some q) : Met l yX8_goesTo wsX8_goesTo ({ frames := 0, cells := 0, slots := 0, locals := 0 } : Room) (cP (dC, dI) cy [.ref (ad 0), .int a1, .int a2, .int a3] (zzM ad cy iM aM) sz) (cQi (dC, dI) cy q (zzM ad cy iM aM) (va_A (zzM ad cy iM aM) sz)) 0 0 (va_A (zzM ad cy iM aM) sz) := by
  refine Met.ofW (cc := cX8_goesTo) (maxL := 4) (ret := (some .boolean)) (by decide) rfl ?_
  intro p e s m args below meth c s₁ B hml hv
  obtain ⟨hav, hsz, hP, hK, hD0, hN⟩ := hv
  have hx := B.exec
  have hb := B.bytes
  have hr := B.returns
  have hts := atoms_spec (ws := wsX8_goesTo) B.pre
  have hown : s.vm.findClass RX8 = some m.cls := findClass_of_methodNamed B.named
  have hlocks := B.notSynchronized
  subst hsz
  have hD := hD0.self (sz := s.heap.size)
  generalize hAe : va_A (zzM ad cy iM aM) s.heap.size = A at hD ⊢
  have hA : ∀ q : Nat, s.heap.size ≤ q → A q := fun q h => by rw [← hAe]; exact Or.inr h
  have hS : va_S A s.heap s.heap [] := va_S.rf
  generalize hWQ : (zzM ad cy iM aM) = WQ
  generalize hQQ : MQ below (cQi (dC, dI) cy q WQ A) args s 0 0 A = QQ
  have hl := lv_entry ([.ref (ad 0), .int a1, .int a2, .int a3] : List Value) (n := 4) (Nat.le_of_ble_eq_true rfl)
  have hfr := lg_entry_eq m ([.ref (ad 0), .int a1, .int a2, .int a3] : List Value) 4
  rw [← hav] at hfr
  rw [hfr]
  clear hfr hav
  generalize (lg_sl ([.ref (ad 0), .int a1, .int a2, .int a3] : List Value) ++ List.replicate (4 - (lg_sl ([.ref (ad 0), .int a1, .int a2, .int a3] : List Value)).length) Slot.unset).toArray = ls at hl ⊢
  have hl : lv_has ls 4 [(0, .ref (ad 0)), (1, .int a1), (2, .int a2), (3, .int a3)] := hl
  have kf105 := hts _ (List.mem_cons_of_mem _ m_fl_X8_105)
  have ki8 := (fun w h => List.mem_cons_of_mem _ (i_X8 w h) : ∀ w ∈ u_ws RX8 TX8 78, w ∈ wsX8_goesTo)
  have kf108 := hts _ (List.mem_cons_of_mem _ m_fl_X8_108)
  refine (?_ : ∀ (H : Heap) (locs : List Loc), va_P (dC, dI) vwCl (zzM ad cy iM aM) H → va_D A (zzM ad cy iM aM) → va_S A s.heap H locs → W p l e ({ frames := 0, cells := 0, slots := 0, locals := 0 } : Room) s m args below meth c H locs 0 0 QQ (F0 m 0 ls [])) s.heap [] hP hD hS
  clear hP hD hS
  intro H locs hP hD hS
  unfold f_M_goesTo at h
  refine lv_aload_n hx hb dX8_goesTo_0 rfl (lv_at hl 0 rfl) ?_
  refine va_get (D := (dC, dI)) (ci := 8) (v := .ref (ad 30)) (C := RX8) (T := TX8) (N := 78) hx hb hts ki8 hown hK hP 0 rfl rfl 58 (by decide) kf105 (fun _ h9 => h9) rfl dX8_goesTo_1 ?_
  refine lv_iload_n hx hb dX8_goesTo_4 rfl (lv_at hl 3 rfl) ?_
  obtain ⟨g_107, h⟩ := g_n h
  refine va_iald (f := (aM 58)) hx hb hK hP 30 0 rfl rfl g_107 dX8_goesTo_5 ?_
  refine lv_aload_n hx hb dX8_goesTo_6 rfl (lv_at hl 0 rfl) ?_
  refine va_get (D := (dC, dI)) (ci := 8) (v := .ref (ad 31)) (C := RX8) (T := TX8) (N := 78) hx hb hts ki8 hown hK hP 0 rfl rfl 59 (by decide) kf108 (fun _ h9 => h9) rfl dX8_goesTo_7 ?_
  refine lv_iload_n hx hb dX8_goesTo_10 rfl (lv_at hl 2 rfl) ?_
  obtain ⟨g_36, h⟩ := g_n h
  refine va_iald (f := (aM 59)) hx hb hK hP 31 0 rfl rfl g_36 dX8_goesTo_11 ?_
  refine lv_iand hx hb dX8_goesTo_12 ?_
  refine lv_iload_n hx hb dX8_goesTo_13 rfl (lv_at hl 1 rfl) ?_
  refine lv_iconst (v := (-1)) hx hb dX8_goesTo_14 (by decide) ?_
  refine lv_ixor hx hb dX8_goesTo_15 ?_
  refine lv_iand hx hb dX8_goesTo_16 ?_
  refine lv_if_ne (tgt := 24) hx hb dX8_goesTo_17 (by decide) (fun cz => ?_) (fun cz => ?_)
  · have h := g_f h cz
    refine lv_iconst (v := 0) hx hb dX8_goesTo_24 (by decide) ?_
    have h' := Option.some.inj h
    rw [← hQQ]
    exact W.zret (v := (0 : Int32)) hx hb hr rfl (fun t ht hW => ⟨⟨(0 : Int32), (), rfl, by rw [← h'], by rw [← hWQ, ht]; exact hP, va_K.moved hW.alike hK⟩, hS.F ht⟩) hS.2.2 dX8_goesTo_25
  · have h := g_t h cz
    refine lv_iconst (v := 1) hx hb dX8_goesTo_20 (by decide) ?_
    refine lv_goto (tgt := 25) hx hb dX8_goesTo_21 (by decide) ?_
    have h' := Option.some.inj h
    rw [← hQQ]
    exact W.zret (v := (1 : Int32)) hx hb hr rfl (fun t ht hW => ⟨⟨(1 : Int32), (), rfl, by rw [← h'], by rw [← hWQ, ht]; exact hP, va_K.moved hW.alike hK⟩, hS.F ht⟩) hS.2.2 dX8_goesTo_25
