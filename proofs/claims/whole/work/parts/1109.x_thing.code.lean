def f_X_thing (a1 : Int32) (iX5 : Int32) (iW1 : Int32) (aW0 : Nat → Int32) : Option Int32 := if iX5 = 0 then (some (-101 : Int32)) else (if a1 < 0 then (some (-102 : Int32)) else (if iW1 ≤ a1 then (some (-102 : Int32)) else (if a1 < 0 ∨ 512 ≤ a1.toNatClampNeg then none else (some (aW0 a1.toNatClampNeg)))))
set_option maxHeartbeats 8000000 in
set_option maxRecDepth 100000 in
theorem c_X_thing (l : Launch) (dC : Nat → ClassId) (dI : Nat → Nat → Nat) (cy : Nat → ClassId) (ad : Nat → Nat) (sz : Nat) (rb : Nat) (rc : Nat) (pb : Nat) (a1 : Int32) (iX : Nat → Int32) (iR : Nat → Int32) (iT : Nat → Int32) (wT : Int64) (tx : Nat → Int32) (iB : Nat → Int32) (lB : Nat → Nat → Int64) (aB : Nat → Nat → Int32) (iC : Nat → Int32) (aC : Nat → Nat → Int32) (iD : Nat → Int32) (lD : Nat → Nat → Int64) (aD : Nat → Nat → Int32) (iE : Nat → Int32) (aE : Nat → Nat → Int32) (iK : Nat → Int32) (lK : Nat → Nat → Int64) (aK : Nat → Nat → Int32) (iW : Nat → Int32) (aW : Nat → Nat → Int32) (iP : Nat → Int32) (aP : Nat → Nat → Int32) (q : Int32) (h : f_X_thing a1 (iX 5) (iW 1) (aW 0) = some q) : Met l yX7_thing wsX7_thing ({ frames := 0, cells := 0, slots := 0, locals := 0 } : Room) (cP (dC, dI) cy [.ref (ad 0), .int a1] (zzX ad cy rb rc (ad 4) (ad 11) pb (ad 4) (ad 20) iX iR iT wT tx iB lB aB iC aC iD lD aD iE aE iK lK aK iW aW iP aP) sz) (cQi (dC, dI) cy q (zzX ad cy rb rc (ad 4) (ad 11) pb (ad 4) (ad 20) iX iR iT wT tx iB lB aB iC aC iD lD aD iE aE iK lK aK iW aW iP aP) (va_A (zzX ad cy rb rc (ad 4) (ad 11) pb (ad 4) (ad 20) iX iR iT wT tx iB lB aB iC aC iD lD aD iE aE iK lK aK iW aW iP aP) sz)) 0 0 (va_A (zzX ad cy rb rc (ad 4) (ad 11) pb (ad 4) (ad 20) iX iR iT wT tx iB lB aB iC aC iD lD aD iE aE iK lK aK iW aW iP aP) sz) := by
  refine Met.ofW (cc := cX7_thing) (maxL := 2) (ret := (some .int)) (by decide) rfl ?_
  intro p e s m args below meth c s₁ B hml hv
  obtain ⟨hav, hsz, hP, hK, hD0, hN⟩ := hv
  have hx := B.exec
  have hb := B.bytes
  have hr := B.returns
  have hts := atoms_spec (ws := wsX7_thing) B.pre
  have hown : s.vm.findClass RX7 = some m.cls := findClass_of_methodNamed B.named
  have hlocks := B.notSynchronized
  subst hsz
  have hD := hD0.self (sz := s.heap.size)
  generalize hAe : va_A (zzX ad cy rb rc (ad 4) (ad 11) pb (ad 4) (ad 20) iX iR iT wT tx iB lB aB iC aC iD lD aD iE aE iK lK aK iW aW iP aP) s.heap.size = A at hD ⊢
  have hA : ∀ q : Nat, s.heap.size ≤ q → A q := fun q h => by rw [← hAe]; exact Or.inr h
  have hS : va_S A s.heap s.heap [] := va_S.rf
  generalize hWQ : (zzX ad cy rb rc (ad 4) (ad 11) pb (ad 4) (ad 20) iX iR iT wT tx iB lB aB iC aC iD lD aD iE aE iK lK aK iW aW iP aP) = WQ
  generalize hQQ : MQ below (cQi (dC, dI) cy q WQ A) args s 0 0 A = QQ
  have hl := lv_entry ([.ref (ad 0), .int a1] : List Value) (n := 2) (Nat.le_of_ble_eq_true rfl)
  have hfr := lg_entry_eq m ([.ref (ad 0), .int a1] : List Value) 2
  rw [← hav] at hfr
  rw [hfr]
  clear hfr hav
  generalize (lg_sl ([.ref (ad 0), .int a1] : List Value) ++ List.replicate (2 - (lg_sl ([.ref (ad 0), .int a1] : List Value)).length) Slot.unset).toArray = ls at hl ⊢
  have hl : lv_has ls 2 [(0, .ref (ad 0)), (1, .int a1)] := hl
  have kf70 := hts _ (List.mem_cons_of_mem _ m_fl_X7_70)
  have ki7 := (fun w h => List.mem_cons_of_mem _ (i_X7 w h) : ∀ w ∈ u_ws RX7 TX7 9, w ∈ wsX7_thing)
  have kf44 := hts _ (List.mem_cons_of_mem _ m_fl_X7_44)
  have kf124 := hts _ (List.mem_cons_of_mem _ m_fl_X7_124)
  have ki6 := (fun w h => List.mem_cons_of_mem _ (i_X6 w h) : ∀ w ∈ u_ws RX6 TX6 5, w ∈ wsX7_thing)
  have kf179 := hts _ (List.mem_cons_of_mem _ m_fl_X7_179)
  refine (?_ : ∀ (H : Heap) (locs : List Loc), va_P (dC, dI) vwCl (zzX ad cy rb rc (ad 4) (ad 11) pb (ad 4) (ad 20) iX iR iT wT tx iB lB aB iC aC iD lD aD iE aE iK lK aK iW aW iP aP) H → va_D A (zzX ad cy rb rc (ad 4) (ad 11) pb (ad 4) (ad 20) iX iR iT wT tx iB lB aB iC aC iD lD aD iE aE iK lK aK iW aW iP aP) → va_S A s.heap H locs → W p l e ({ frames := 0, cells := 0, slots := 0, locals := 0 } : Room) s m args below meth c H locs 0 0 QQ (F0 m 0 ls [])) s.heap [] hP hD hS
  clear hP hD hS
  intro H locs hP hD hS
  unfold f_X_thing at h
  refine lv_aload_n hx hb dX7_thing_0 rfl (lv_at hl 0 rfl) ?_
  refine va_get (D := (dC, dI)) (ci := 7) (v := .int (iX 5)) (C := RX7) (T := TX7) (N := 9) hx hb hts ki7 hown hK hP 0 rfl rfl 5 (by decide) kf70 (fun _ h9 => h9) rfl dX7_thing_1 ?_
  refine lv_if_ne (tgt := 10) hx hb dX7_thing_4 (by decide) (fun cz => ?_) (fun cz => ?_)
  · have h := g_f h cz
    refine lv_iload_n hx hb dX7_thing_10 rfl (lv_at hl 1 rfl) ?_
    refine lv_if_lt (tgt := 37) hx hb dX7_thing_11 (by decide) (fun cz => ?_) (fun cz => ?_)
    · have h := g_t h cz
      refine lv_bipush (v := (-102)) hx hb dX7_thing_37 (by decide) ?_
      have h' := Option.some.inj h
      rw [← hQQ]
      exact W.iret (v := (-102 : Int32)) hx hb hr (fun t ht hW => ⟨⟨(-102 : Int32), (), rfl, by rw [← h'], by rw [← hWQ, ht]; exact hP, va_K.moved hW.alike hK⟩, hS.F ht⟩) hS.2.2 dX7_thing_39
    · have h := g_f h cz
      refine lv_iload_n hx hb dX7_thing_14 rfl (lv_at hl 1 rfl) ?_
      refine lv_aload_n hx hb dX7_thing_15 rfl (lv_at hl 0 rfl) ?_
      refine va_get (D := (dC, dI)) (ci := 7) (v := .ref (ad 47)) (C := RX7) (T := TX7) (N := 9) hx hb hts ki7 hown hK hP 0 rfl rfl 7 (by decide) kf44 (fun _ h9 => h9) rfl dX7_thing_16 ?_
      refine va_get (D := (dC, dI)) (ci := 6) (v := .int (iW 1)) (C := RX6) (T := TX6) (N := 5) hx hb hts ki6 hown hK hP 47 rfl rfl 1 (by decide) kf124 (fun _ h9 => h9) rfl dX7_thing_19 ?_
      refine lv_icmp_ge (tgt := 37) hx hb dX7_thing_22 (by decide) (fun cz => ?_) (fun cz => ?_)
      · have h := g_t h cz
        refine lv_bipush (v := (-102)) hx hb dX7_thing_37 (by decide) ?_
        have h' := Option.some.inj h
        rw [← hQQ]
        exact W.iret (v := (-102 : Int32)) hx hb hr (fun t ht hW => ⟨⟨(-102 : Int32), (), rfl, by rw [← h'], by rw [← hWQ, ht]; exact hP, va_K.moved hW.alike hK⟩, hS.F ht⟩) hS.2.2 dX7_thing_39
      · have h := g_f h cz
        refine lv_aload_n hx hb dX7_thing_25 rfl (lv_at hl 0 rfl) ?_
        refine va_get (D := (dC, dI)) (ci := 7) (v := .ref (ad 47)) (C := RX7) (T := TX7) (N := 9) hx hb hts ki7 hown hK hP 0 rfl rfl 7 (by decide) kf44 (fun _ h9 => h9) rfl dX7_thing_26 ?_
        refine va_get (D := (dC, dI)) (ci := 6) (v := .ref (ad 48)) (C := RX6) (T := TX6) (N := 5) hx hb hts ki6 hown hK hP 47 rfl rfl 0 (by decide) kf179 (fun _ h9 => h9) rfl dX7_thing_29 ?_
        refine lv_iload_n hx hb dX7_thing_32 rfl (lv_at hl 1 rfl) ?_
        obtain ⟨g_34, h⟩ := g_n h
        refine va_sald (f := (aW 0)) hx hb hK hP 48 3 rfl rfl g_34 dX7_thing_33 ?_
        refine lv_goto (tgt := 39) hx hb dX7_thing_34 (by decide) ?_
        have h' := Option.some.inj h
        rw [← hQQ]
        exact W.iret (v := ((aW 0) a1.toNatClampNeg)) hx hb hr (fun t ht hW => ⟨⟨((aW 0) a1.toNatClampNeg), (), rfl, by rw [← h'], by rw [← hWQ, ht]; exact hP, va_K.moved hW.alike hK⟩, hS.F ht⟩) hS.2.2 dX7_thing_39
  · have h := g_t h cz
    refine lv_bipush (v := (-101)) hx hb dX7_thing_7 (by decide) ?_
    have h' := Option.some.inj h
    rw [← hQQ]
    exact W.iret (v := (-101 : Int32)) hx hb hr (fun t ht hW => ⟨⟨(-101 : Int32), (), rfl, by rw [← h'], by rw [← hWQ, ht]; exact hP, va_K.moved hW.alike hK⟩, hS.F ht⟩) hS.2.2 dX7_thing_9
