def f_X_out (a1 : Int32) (iP1 : Int32) (aP0 : Nat → Int32) : Option Int32 := if a1 < 0 then (some (-1 : Int32)) else (if iP1 ≤ a1 then (some (-1 : Int32)) else (if a1 < 0 ∨ 2670 ≤ a1.toNatClampNeg then none else (some (aP0 a1.toNatClampNeg))))
set_option maxHeartbeats 8000000 in
set_option maxRecDepth 100000 in
theorem c_X_out (l : Launch) (dC : Nat → ClassId) (dI : Nat → Nat → Nat) (cy : Nat → ClassId) (ad : Nat → Nat) (sz : Nat) (rb : Nat) (rc : Nat) (pb : Nat) (a1 : Int32) (iX : Nat → Int32) (iR : Nat → Int32) (iT : Nat → Int32) (wT : Int64) (tx : Nat → Int32) (iB : Nat → Int32) (lB : Nat → Nat → Int64) (aB : Nat → Nat → Int32) (iC : Nat → Int32) (aC : Nat → Nat → Int32) (iD : Nat → Int32) (lD : Nat → Nat → Int64) (aD : Nat → Nat → Int32) (iE : Nat → Int32) (aE : Nat → Nat → Int32) (iK : Nat → Int32) (lK : Nat → Nat → Int64) (aK : Nat → Nat → Int32) (iW : Nat → Int32) (aW : Nat → Nat → Int32) (iP : Nat → Int32) (aP : Nat → Nat → Int32) (q : Int32) (h : f_X_out a1 (iP 1) (aP 0) = some q) : Met l yX7_out wsX7_out ({ frames := 0, cells := 0, slots := 0, locals := 0 } : Room) (cP (dC, dI) cy [.ref (ad 0), .int a1] (zzX ad cy rb rc (ad 4) (ad 11) pb (ad 4) (ad 20) iX iR iT wT tx iB lB aB iC aC iD lD aD iE aE iK lK aK iW aW iP aP) sz) (cQi (dC, dI) cy q (zzX ad cy rb rc (ad 4) (ad 11) pb (ad 4) (ad 20) iX iR iT wT tx iB lB aB iC aC iD lD aD iE aE iK lK aK iW aW iP aP) (va_A (zzX ad cy rb rc (ad 4) (ad 11) pb (ad 4) (ad 20) iX iR iT wT tx iB lB aB iC aC iD lD aD iE aE iK lK aK iW aW iP aP) sz)) 0 0 (va_A (zzX ad cy rb rc (ad 4) (ad 11) pb (ad 4) (ad 20) iX iR iT wT tx iB lB aB iC aC iD lD aD iE aE iK lK aK iW aW iP aP) sz) := by
  refine Met.ofW (cc := cX7_out) (maxL := 2) (ret := (some .int)) (by decide) rfl ?_
  intro p e s m args below meth c s₁ B hml hv
  obtain ⟨hav, hsz, hP, hK, hD0, hN⟩ := hv
  have hx := B.exec
  have hb := B.bytes
  have hr := B.returns
  have hts := atoms_spec (ws := wsX7_out) B.pre
  have hown : s.vm.findClass RX7 = some m.cls := findClass_of_methodNamed B.named
  have hlocks := B.notSynchronized
  subst hsz
  have hD := hD0.self (sz := s.heap.size)
  generalize hAe : va_A (zzX ad cy rb rc (ad 4) (ad 11) pb (ad 4) (ad 20) iX iR iT wT tx iB lB aB iC aC iD lD aD iE aE iK lK aK iW aW iP aP) s.heap.size = A at hD ⊢
  have hA : ∀ q : Nat, s.heap.size ≤ q → A q := fun q h => by rw [← hAe]; exact Or.inr h
  have hS : va_S A s.heap s.heap [] := va_S.rf
  generalize hWQ : (zzX ad cy rb rc (ad 4) (ad 11) pb (ad 4) (ad 20) iX iR iT wT tx iB lB aB iC aC iD lD aD iE aE iK lK aK iW aW iP aP) = WQ
  generalize hQQ : MQ below (cQi (dC, dI) cy q WQ A) args s 0 0 A = QQ
  have hl := lv_entry ([.ref (ad 0), .int a1] : List Value) (n := 2) (Nat.le_of_ble_eq_true rfl)
  have hfr := lg_entry_eq m ([.ref (ad 0), .int a1] : List Value) 2
  rw [← hav] at hfr
  rw [hfr]
  clear hfr hav
  generalize (lg_sl ([.ref (ad 0), .int a1] : List Value) ++ List.replicate (2 - (lg_sl ([.ref (ad 0), .int a1] : List Value)).length) Slot.unset).toArray = ls at hl ⊢
  have hl : lv_has ls 2 [(0, .ref (ad 0)), (1, .int a1)] := hl
  have kf51 := hts _ (List.mem_cons_of_mem _ m_fl_X7_51)
  have ki7 := (fun w h => List.mem_cons_of_mem _ (i_X7 w h) : ∀ w ∈ u_ws RX7 TX7 9, w ∈ wsX7_out)
  have kf86 := hts _ (List.mem_cons_of_mem _ m_fl_X7_86)
  have ki3 := (fun w h => List.mem_cons_of_mem _ (i_X3 w h) : ∀ w ∈ u_ws RX3 TX3 5, w ∈ wsX7_out)
  have kf201 := hts _ (List.mem_cons_of_mem _ m_fl_X7_201)
  refine (?_ : ∀ (H : Heap) (locs : List Loc), va_P (dC, dI) vwCl (zzX ad cy rb rc (ad 4) (ad 11) pb (ad 4) (ad 20) iX iR iT wT tx iB lB aB iC aC iD lD aD iE aE iK lK aK iW aW iP aP) H → va_D A (zzX ad cy rb rc (ad 4) (ad 11) pb (ad 4) (ad 20) iX iR iT wT tx iB lB aB iC aC iD lD aD iE aE iK lK aK iW aW iP aP) → va_S A s.heap H locs → W p l e ({ frames := 0, cells := 0, slots := 0, locals := 0 } : Room) s m args below meth c H locs 0 0 QQ (F0 m 0 ls [])) s.heap [] hP hD hS
  clear hP hD hS
  intro H locs hP hD hS
  unfold f_X_out at h
  refine lv_iload_n hx hb dX7_out_0 rfl (lv_at hl 1 rfl) ?_
  refine lv_if_lt (tgt := 27) hx hb dX7_out_1 (by decide) (fun cz => ?_) (fun cz => ?_)
  · have h := g_t h cz
    refine lv_iconst (v := (-1)) hx hb dX7_out_27 (by decide) ?_
    have h' := Option.some.inj h
    rw [← hQQ]
    exact W.iret (v := (-1 : Int32)) hx hb hr (fun t ht hW => ⟨⟨(-1 : Int32), (), rfl, by rw [← h'], by rw [← hWQ, ht]; exact hP, va_K.moved hW.alike hK⟩, hS.F ht⟩) hS.2.2 dX7_out_28
  · have h := g_f h cz
    refine lv_iload_n hx hb dX7_out_4 rfl (lv_at hl 1 rfl) ?_
    refine lv_aload_n hx hb dX7_out_5 rfl (lv_at hl 0 rfl) ?_
    refine va_get (D := (dC, dI)) (ci := 7) (v := .ref (ad 51)) (C := RX7) (T := TX7) (N := 9) hx hb hts ki7 hown hK hP 0 rfl rfl 8 (by decide) kf51 (fun _ h9 => h9) rfl dX7_out_6 ?_
    refine va_get (D := (dC, dI)) (ci := 3) (v := .int (iP 1)) (C := RX3) (T := TX3) (N := 5) hx hb hts ki3 hown hK hP 51 rfl rfl 1 (by decide) kf86 (fun _ h9 => h9) rfl dX7_out_9 ?_
    refine lv_icmp_ge (tgt := 27) hx hb dX7_out_12 (by decide) (fun cz => ?_) (fun cz => ?_)
    · have h := g_t h cz
      refine lv_iconst (v := (-1)) hx hb dX7_out_27 (by decide) ?_
      have h' := Option.some.inj h
      rw [← hQQ]
      exact W.iret (v := (-1 : Int32)) hx hb hr (fun t ht hW => ⟨⟨(-1 : Int32), (), rfl, by rw [← h'], by rw [← hWQ, ht]; exact hP, va_K.moved hW.alike hK⟩, hS.F ht⟩) hS.2.2 dX7_out_28
    · have h := g_f h cz
      refine lv_aload_n hx hb dX7_out_15 rfl (lv_at hl 0 rfl) ?_
      refine va_get (D := (dC, dI)) (ci := 7) (v := .ref (ad 51)) (C := RX7) (T := TX7) (N := 9) hx hb hts ki7 hown hK hP 0 rfl rfl 8 (by decide) kf51 (fun _ h9 => h9) rfl dX7_out_16 ?_
      refine va_get (D := (dC, dI)) (ci := 3) (v := .ref (ad 52)) (C := RX3) (T := TX3) (N := 5) hx hb hts ki3 hown hK hP 51 rfl rfl 0 (by decide) kf201 (fun _ h9 => h9) rfl dX7_out_19 ?_
      refine lv_iload_n hx hb dX7_out_22 rfl (lv_at hl 1 rfl) ?_
      obtain ⟨g_46, h⟩ := g_n h
      refine va_bald (f := (aP 0)) hx hb hK hP 52 1 rfl rfl g_46 dX7_out_23 ?_
      refine lv_goto (tgt := 28) hx hb dX7_out_24 (by decide) ?_
      have h' := Option.some.inj h
      rw [← hQQ]
      exact W.iret (v := ((aP 0) a1.toNatClampNeg)) hx hb hr (fun t ht hW => ⟨⟨((aP 0) a1.toNatClampNeg), (), rfl, by rw [← h'], by rw [← hWQ, ht]; exact hP, va_K.moved hW.alike hK⟩, hS.F ht⟩) hS.2.2 dX7_out_28
