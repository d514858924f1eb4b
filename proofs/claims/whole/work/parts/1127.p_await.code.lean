def f_P_await (a1 : Int32) (iP4 : Int32) (aP3 : Nat → Int32) : Option (Int32 × (Nat → Int32)) := if iP4 < 0 then (some (iP4, aP3)) else (if (500 : Int32) ≤ iP4 then (some (iP4, aP3)) else (if iP4 < 0 ∨ 500 ≤ iP4.toNatClampNeg then none else (some ((iP4 + (1 : Int32)), (upd aP3 iP4.toNatClampNeg a1)))))
set_option maxHeartbeats 8000000 in
set_option maxRecDepth 100000 in
theorem c_P_await (l : Launch) (dC : Nat → ClassId) (dI : Nat → Nat → Nat) (cy : Nat → ClassId) (ad : Nat → Nat) (sz : Nat) (a1 : Int32) (iP : Nat → Int32) (aP : Nat → Nat → Int32) (iB : Nat → Int32) (lB : Nat → Nat → Int64) (aB : Nat → Nat → Int32) (iC : Nat → Int32) (aC : Nat → Nat → Int32) (q : Int32 × (Nat → Int32)) (h : f_P_await a1 (iP 4) (aP 3) = some q) : Met l yX3_await wsX3_await ({ frames := 0, cells := 0, slots := 0, locals := 0 } : Room) (cP (dC, dI) cy [.ref (ad 0), .int a1] (zzP ad cy (ad 3) iP aP iB lB aB iC aC) sz) (cQv (dC, dI) cy (zzP ad cy (ad 3) (us iP [(4, q.1)]) (us aP [(3, q.2)]) iB lB aB iC aC) (va_A (zzP ad cy (ad 3) iP aP iB lB aB iC aC) sz)) 0 0 (va_A (zzP ad cy (ad 3) iP aP iB lB aB iC aC) sz) := by
  refine Met.ofW (cc := cX3_await) (maxL := 2) (ret := none) (by decide) rfl ?_
  intro p e s m args below meth c s₁ B hml hv
  obtain ⟨hav, hsz, hP, hK, hD0, hN⟩ := hv
  have hx := B.exec
  have hb := B.bytes
  have hr := B.returns
  have hts := atoms_spec (ws := wsX3_await) B.pre
  have hown : s.vm.findClass RX3 = some m.cls := findClass_of_methodNamed B.named
  have hlocks := B.notSynchronized
  subst hsz
  have hD := hD0.self (sz := s.heap.size)
  generalize hAe : va_A (zzP ad cy (ad 3) iP aP iB lB aB iC aC) s.heap.size = A at hD ⊢
  have hA : ∀ q : Nat, s.heap.size ≤ q → A q := fun q h => by rw [← hAe]; exact Or.inr h
  have hS : va_S A s.heap s.heap [] := va_S.rf
  generalize hWQ : (zzP ad cy (ad 3) (us iP [(4, q.1)]) (us aP [(3, q.2)]) iB lB aB iC aC) = WQ
  generalize hQQ : MQ below (cQv (dC, dI) cy WQ A) args s 0 0 A = QQ
  have hl := lv_entry ([.ref (ad 0), .int a1] : List Value) (n := 2) (Nat.le_of_ble_eq_true rfl)
  have hfr := lg_entry_eq m ([.ref (ad 0), .int a1] : List Value) 2
  rw [← hav] at hfr
  rw [hfr]
  clear hfr hav
  generalize (lg_sl ([.ref (ad 0), .int a1] : List Value) ++ List.replicate (2 - (lg_sl ([.ref (ad 0), .int a1] : List Value)).length) Slot.unset).toArray = ls at hl ⊢
  have hl : lv_has ls 2 [(0, .ref (ad 0)), (1, .int a1)] := hl
  have kf79 := hts _ (List.mem_cons_of_mem _ m_fl_X3_79)
  have ki3 := (fun w h => List.mem_cons_of_mem _ (i_X3 w h) : ∀ w ∈ u_ws RX3 TX3 5, w ∈ wsX3_await)
  have kf15 := hts _ (List.mem_cons_of_mem _ m_fl_X3_15)
  refine (?_ : ∀ (H : Heap) (locs : List Loc), va_P (dC, dI) vwCl (zzP ad cy (ad 3) iP aP iB lB aB iC aC) H → va_D A (zzP ad cy (ad 3) iP aP iB lB aB iC aC) → va_S A s.heap H locs → W p l e ({ frames := 0, cells := 0, slots := 0, locals := 0 } : Room) s m args below meth c H locs 0 0 QQ (F0 m 0 ls [])) s.heap [] hP hD hS
  clear hP hD hS
  intro H locs hP hD hS
  unfold f_P_await at h
  refine lv_aload_n hx hb dX3_await_0 rfl (lv_at hl 0 rfl) ?_
  refine va_get (D := (dC, dI)) (ci := 3) (v := .int (iP 4)) (C := RX3) (T := TX3) (N := 5) hx hb hts ki3 hown hK hP 0 rfl rfl 4 (by decide) kf79 (fun _ h9 => h9) rfl dX3_await_1 ?_
  refine lv_if_lt (tgt := 37) hx hb dX3_await_4 (by decide) (fun cz => ?_) (fun cz => ?_)
  · have h := g_t h cz
    have h' := Option.some.inj h
    rw [← hQQ]
    exact W.vret hx hb hr (fun t ht hW => ⟨⟨(), rfl, trivial, by rw [← hWQ, ← h', ht]; exact hP, va_K.moved hW.alike hK⟩, hS.F ht⟩) hS.2.2 dX3_await_37
  · have h := g_f h cz
    refine lv_aload_n hx hb dX3_await_7 rfl (lv_at hl 0 rfl) ?_
    refine va_get (D := (dC, dI)) (ci := 3) (v := .int (iP 4)) (C := RX3) (T := TX3) (N := 5) hx hb hts ki3 hown hK hP 0 rfl rfl 4 (by decide) kf79 (fun _ h9 => h9) rfl dX3_await_8 ?_
    refine lv_sipush (v := 500) hx hb dX3_await_11 (by decide) ?_
    refine lv_icmp_ge (tgt := 37) hx hb dX3_await_14 (by decide) (fun cz => ?_) (fun cz => ?_)
    · have h := g_t h cz
      have h' := Option.some.inj h
      rw [← hQQ]
      exact W.vret hx hb hr (fun t ht hW => ⟨⟨(), rfl, trivial, by rw [← hWQ, ← h', ht]; exact hP, va_K.moved hW.alike hK⟩, hS.F ht⟩) hS.2.2 dX3_await_37
    · have h := g_f h cz
      refine lv_aload_n hx hb dX3_await_17 rfl (lv_at hl 0 rfl) ?_
      refine va_get (D := (dC, dI)) (ci := 3) (v := .ref (ad 2)) (C := RX3) (T := TX3) (N := 5) hx hb hts ki3 hown hK hP 0 rfl rfl 3 (by decide) kf15 (fun _ h9 => h9) rfl dX3_await_18 ?_
      refine lv_aload_n hx hb dX3_await_21 rfl (lv_at hl 0 rfl) ?_
      refine va_get (D := (dC, dI)) (ci := 3) (v := .int (iP 4)) (C := RX3) (T := TX3) (N := 5) hx hb hts ki3 hown hK hP 0 rfl rfl 4 (by decide) kf79 (fun _ h9 => h9) rfl dX3_await_22 ?_
      refine lv_iload_n hx hb dX3_await_25 rfl (lv_at hl 1 rfl) ?_
      obtain ⟨g_43, h⟩ := g_n h
      refine va_iast (f := (aP 3)) hx hb hK hP hD hS 2 0 rfl rfl g_43 dX3_await_26 (fun H locs hP hD hS => ?_)
      have hP : va_P (dC, dI) vwCl (zzP ad cy (ad 3) iP (us aP [(3, (upd (aP 3) (iP 4).toNatClampNeg a1))]) iB lB aB iC aC) H := Eq.mp (congrArg (fun w => va_P (dC, dI) vwCl w H) (sfP_aP3 ad cy (ad 3) iP aP iB lB aB iC aC ((upd (aP 3) (iP 4).toNatClampNeg a1)))) hP
      have hD : va_D A (zzP ad cy (ad 3) iP (us aP [(3, (upd (aP 3) (iP 4).toNatClampNeg a1))]) iB lB aB iC aC) := Eq.mp (congrArg (fun w => va_D A w) (sfP_aP3 ad cy (ad 3) iP aP iB lB aB iC aC ((upd (aP 3) (iP 4).toNatClampNeg a1)))) hD
      refine lv_aload_n hx hb dX3_await_27 rfl (lv_at hl 0 rfl) ?_
      refine lv_dup hx hb dX3_await_28 rfl ?_
      refine va_get (D := (dC, dI)) (ci := 3) (v := .int (iP 4)) (C := RX3) (T := TX3) (N := 5) hx hb hts ki3 hown hK hP 0 rfl rfl 4 (by decide) kf79 (fun _ h9 => h9) rfl dX3_await_29 ?_
      refine lv_iconst (v := 1) hx hb dX3_await_32 (by decide) ?_
      refine lv_iadd hx hb dX3_await_33 ?_
      refine va_put (D := (dC, dI)) (ci := 3) (v := .int (((iP 4) + (1 : Int32)))) (ty := .int) (C := RX3) (T := TX3) (N := 5) hx hb hts ki3 tyX3 tyX3_ok nmX3 hown hK hP hD hS 0 rfl rfl 4 (by decide) kf79 (fun _ h9 => h9) rfl (by decide +kernel) rfl rfl (Nat.le_of_ble_eq_true rfl) dX3_await_34 (fun H locs hP hD hS => ?_)
      have hP : va_P (dC, dI) vwCl (zzP ad cy (ad 3) (us iP [(4, ((iP 4) + (1 : Int32)))]) (us aP [(3, (upd (aP 3) (iP 4).toNatClampNeg a1))]) iB lB aB iC aC) H := Eq.mp (congrArg (fun w => va_P (dC, dI) vwCl w H) (sfP_iP4 ad cy (ad 3) iP (us aP [(3, (upd (aP 3) (iP 4).toNatClampNeg a1))]) iB lB aB iC aC (((iP 4) + (1 : Int32))))) hP
      have hD : va_D A (zzP ad cy (ad 3) (us iP [(4, ((iP 4) + (1 : Int32)))]) (us aP [(3, (upd (aP 3) (iP 4).toNatClampNeg a1))]) iB lB aB iC aC) := Eq.mp (congrArg (fun w => va_D A w) (sfP_iP4 ad cy (ad 3) iP (us aP [(3, (upd (aP 3) (iP 4).toNatClampNeg a1))]) iB lB aB iC aC (((iP 4) + (1 : Int32))))) hD
      have h' := Option.some.inj h
      rw [← hQQ]
      exact W.vret hx hb hr (fun t ht hW => ⟨⟨(), rfl, trivial, by rw [← hWQ, ← h', ht]; exact hP, va_K.moved hW.alike hK⟩, hS.F ht⟩) hS.2.2 dX3_await_37
