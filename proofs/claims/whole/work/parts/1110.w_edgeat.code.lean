def f_W_edgeAt (a1 : Int32) (iW4 : Int32) (aW3 : Nat → Int32) : Option Int32 := if a1 < 0 then (some (0 : Int32)) else (if iW4 ≤ a1 then (some (0 : Int32)) else (if a1 < 0 ∨ 2304 ≤ a1.toNatClampNeg then none else (some (aW3 a1.toNatClampNeg))))
set_option maxHeartbeats 8000000 in
set_option maxRecDepth 100000 in
theorem c_W_edgeAt (l : Launch) (dC : Nat → ClassId) (dI : Nat → Nat → Nat) (cy : Nat → ClassId) (ad : Nat → Nat) (sz : Nat) (a1 : Int32) (iW : Nat → Int32) (aW : Nat → Nat → Int32) (q : Int32) (h : f_W_edgeAt a1 (iW 4) (aW 3) = some q) : Met l yX6_edgeAt wsX6_edgeAt ({ frames := 0, cells := 0, slots := 0, locals := 0 } : Room) (cP (dC, dI) cy [.ref (ad 0), .int a1] (zzw ad cy iW aW) sz) (cQi (dC, dI) cy q (zzw ad cy iW aW) (va_A (zzw ad cy iW aW) sz)) 0 0 (va_A (zzw ad cy iW aW) sz) := by
  refine Met.ofW (cc := cX6_edgeAt) (maxL := 2) (ret := (some .int)) (by decide) rfl ?_
  intro p e s m args below meth c s₁ B hml hv
  obtain ⟨hav, hsz, hP, hK, hD0, hN⟩ := hv
  have hx := B.exec
  have hb := B.bytes
  have hr := B.returns
  have hts := atoms_spec (ws := wsX6_edgeAt) B.pre
  have hown : s.vm.findClass RX6 = some m.cls := findClass_of_methodNamed B.named
  have hlocks := B.notSynchronized
  subst hsz
  have hD := hD0.self (sz := s.heap.size)
  generalize hAe : va_A (zzw ad cy iW aW) s.heap.size = A at hD ⊢
  have hA : ∀ q : Nat, s.heap.size ≤ q → A q := fun q h => by rw [← hAe]; exact Or.inr h
  have hS : va_S A s.heap s.heap [] := va_S.rf
  generalize hWQ : (zzw ad cy iW aW) = WQ
  generalize hQQ : MQ below (cQi (dC, dI) cy q WQ A) args s 0 0 A = QQ
  have hl := lv_entry ([.ref (ad 0), .int a1] : List Value) (n := 2) (Nat.le_of_ble_eq_true rfl)
  have hfr := lg_entry_eq m ([.ref (ad 0), .int a1] : List Value) 2
  rw [← hav] at hfr
  rw [hfr]
  clear hfr hav
  generalize (lg_sl ([.ref (ad 0), .int a1] : List Value) ++ List.replicate (2 - (lg_sl ([.ref (ad 0), .int a1] : List Value)).length) Slot.unset).toArray = ls at hl ⊢
  have hl : lv_has ls 2 [(0, .ref (ad 0)), (1, .int a1)] := hl
  have kf26 := hts _ (List.mem_cons_of_mem _ m_fl_X6_26)
  have ki6 := (fun w h => List.mem_cons_of_mem _ (i_X6 w h) : ∀ w ∈ u_ws RX6 TX6 5, w ∈ wsX6_edgeAt)
  have kf18 := hts _ (List.mem_cons_of_mem _ m_fl_X6_18)
  refine (?_ : ∀ (H : Heap) (locs : List Loc), va_P (dC, dI) vwCl (zzw ad cy iW aW) H → va_D A (zzw ad cy iW aW) → va_S A s.heap H locs → W p l e ({ frames := 0, cells := 0, slots := 0, locals := 0 } : Room) s m args below meth c H locs 0 0 QQ (F0 m 0 ls [])) s.heap [] hP hD hS
  clear hP hD hS
  intro H locs hP hD hS
  unfold f_W_edgeAt at h
  refine lv_iload_n hx hb dX6_edgeAt_0 rfl (lv_at hl 1 rfl) ?_
  refine lv_if_lt (tgt := 21) hx hb dX6_edgeAt_1 (by decide) (fun cz => ?_) (fun cz => ?_)
  · have h := g_t h cz
    refine lv_iconst (v := 0) hx hb dX6_edgeAt_21 (by decide) ?_
    have h' := Option.some.inj h
    rw [← hQQ]
    exact W.iret (v := (0 : Int32)) hx hb hr (fun t ht hW => ⟨⟨(0 : Int32), (), rfl, by rw [← h'], by rw [← hWQ, ht]; exact hP, va_K.moved hW.alike hK⟩, hS.F ht⟩) hS.2.2 dX6_edgeAt_22
  · have h := g_f h cz
    refine lv_iload_n hx hb dX6_edgeAt_4 rfl (lv_at hl 1 rfl) ?_
    refine lv_aload_n hx hb dX6_edgeAt_5 rfl (lv_at hl 0 rfl) ?_
    refine va_get (D := (dC, dI)) (ci := 6) (v := .int (iW 4)) (C := RX6) (T := TX6) (N := 5) hx hb hts ki6 hown hK hP 0 rfl rfl 4 (by decide) kf26 (fun _ h9 => h9) rfl dX6_edgeAt_6 ?_
    refine lv_icmp_ge (tgt := 21) hx hb dX6_edgeAt_9 (by decide) (fun cz => ?_) (fun cz => ?_)
    · have h := g_t h cz
      refine lv_iconst (v := 0) hx hb dX6_edgeAt_21 (by decide) ?_
      have h' := Option.some.inj h
      rw [← hQQ]
      exact W.iret (v := (0 : Int32)) hx hb hr (fun t ht hW => ⟨⟨(0 : Int32), (), rfl, by rw [← h'], by rw [← hWQ, ht]; exact hP, va_K.moved hW.alike hK⟩, hS.F ht⟩) hS.2.2 dX6_edgeAt_22
    · have h := g_f h cz
      refine lv_aload_n hx hb dX6_edgeAt_12 rfl (lv_at hl 0 rfl) ?_
      refine va_get (D := (dC, dI)) (ci := 6) (v := .ref (ad 3)) (C := RX6) (T := TX6) (N := 5) hx hb hts ki6 hown hK hP 0 rfl rfl 3 (by decide) kf18 (fun _ h9 => h9) rfl dX6_edgeAt_13 ?_
      refine lv_iload_n hx hb dX6_edgeAt_16 rfl (lv_at hl 1 rfl) ?_
      obtain ⟨g_40, h⟩ := g_n h
      refine va_iald (f := (aW 3)) hx hb hK hP 3 0 rfl rfl g_40 dX6_edgeAt_17 ?_
      refine lv_goto (tgt := 22) hx hb dX6_edgeAt_18 (by decide) ?_
      have h' := Option.some.inj h
      rw [← hQQ]
      exact W.iret (v := ((aW 3) a1.toNatClampNeg)) hx hb hr (fun t ht hW => ⟨⟨((aW 3) a1.toNatClampNeg), (), rfl, by rw [← h'], by rw [← hWQ, ht]; exact hP, va_K.moved hW.alike hK⟩, hS.F ht⟩) hS.2.2 dX6_edgeAt_22
