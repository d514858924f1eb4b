def f_C_clear (iC4 : Int32) (iC9 : Int32) : Option (Int32 × Int32) := some ((0 : Int32), (0 : Int32))
set_option maxHeartbeats 8000000 in
set_option maxRecDepth 100000 in
theorem c_C_clear (l : Launch) (dC : Nat → ClassId) (dI : Nat → Nat → Nat) (cy : Nat → ClassId) (ad : Nat → Nat) (sz : Nat) (iC : Nat → Int32) (aC : Nat → Nat → Int32) (q : Int32 × Int32) (h : f_C_clear (iC 4) (iC 9) = some q) : Met l yX1_clear wsX1_clear ({ frames := 0, cells := 0, slots := 0, locals := 0 } : Room) (cP (dC, dI) cy [.ref (ad 0)] (zzC ad cy iC aC) sz) (cQv (dC, dI) cy (zzC ad cy (us iC [(4, q.1), (9, q.2)]) aC) (va_A (zzC ad cy iC aC) sz)) 0 0 (va_A (zzC ad cy iC aC) sz) := by
  refine Met.ofW (cc := cX1_clear) (maxL := 1) (ret := none) (by decide) rfl ?_
  intro p e s m args below meth c s₁ B hml hv
  obtain ⟨hav, hsz, hP, hK, hD0, hN⟩ := hv
  have hx := B.exec
  have hb := B.bytes
  have hr := B.returns
  have hts := atoms_spec (ws := wsX1_clear) B.pre
  have hown : s.vm.findClass RX1 = some m.cls := findClass_of_methodNamed B.named
  have hlocks := B.notSynchronized
  subst hsz
  have hD := hD0.self (sz := s.heap.size)
  generalize hAe : va_A (zzC ad cy iC aC) s.heap.size = A at hD ⊢
  have hA : ∀ q : Nat, s.heap.size ≤ q → A q := fun q h => by rw [← hAe]; exact Or.inr h
  have hS : va_S A s.heap s.heap [] := va_S.rf
  generalize hWQ : (zzC ad cy (us iC [(4, q.1), (9, q.2)]) aC) = WQ
  generalize hQQ : MQ below (cQv (dC, dI) cy WQ A) args s 0 0 A = QQ
  have hl := lv_entry ([.ref (ad 0)] : List Value) (n := 1) (Nat.le_of_ble_eq_true rfl)
  have hfr := lg_entry_eq m ([.ref (ad 0)] : List Value) 1
  rw [← hav] at hfr
  rw [hfr]
  clear hfr hav
  generalize (lg_sl ([.ref (ad 0)] : List Value) ++ List.replicate (1 - (lg_sl ([.ref (ad 0)] : List Value)).length) Slot.unset).toArray = ls at hl ⊢
  have hl : lv_has ls 1 [(0, .ref (ad 0))] := hl
  have kf36 := hts _ (List.mem_cons_of_mem _ m_fl_X1_36)
  have ki1 := (fun w h => List.mem_cons_of_mem _ (i_X1 w h) : ∀ w ∈ u_ws RX1 TX1 10, w ∈ wsX1_clear)
  have kf40 := hts _ (List.mem_cons_of_mem _ m_fl_X1_40)
  refine (?_ : ∀ (H : Heap) (locs : List Loc), va_P (dC, dI) vwCl (zzC ad cy iC aC) H → va_D A (zzC ad cy iC aC) → va_S A s.heap H locs → W p l e ({ frames := 0, cells := 0, slots := 0, locals := 0 } : Room) s m args below meth c H locs 0 0 QQ (F0 m 0 ls [])) s.heap [] hP hD hS
  clear hP hD hS
  intro H locs hP hD hS
  unfold f_C_clear at h
  refine lv_aload_n hx hb dX1_clear_0 rfl (lv_at hl 0 rfl) ?_
  refine lv_iconst (v := 0) hx hb dX1_clear_1 (by decide) ?_
  refine va_put (D := (dC, dI)) (ci := 1) (v := .int ((0 : Int32))) (ty := .int) (C := RX1) (T := TX1) (N := 10) hx hb hts ki1 tyX1 tyX1_ok nmX1 hown hK hP hD hS 0 rfl rfl 4 (by decide) kf36 (fun _ h9 => h9) rfl (by decide +kernel) rfl rfl (Nat.le_of_ble_eq_true rfl) dX1_clear_2 (fun H locs hP hD hS => ?_)
  have hP : va_P (dC, dI) vwCl (zzC ad cy (us iC [(4, (0 : Int32))]) aC) H := Eq.mp (congrArg (fun w => va_P (dC, dI) vwCl w H) (sfC_iC4 ad cy iC aC ((0 : Int32)))) hP
  have hD : va_D A (zzC ad cy (us iC [(4, (0 : Int32))]) aC) := Eq.mp (congrArg (fun w => va_D A w) (sfC_iC4 ad cy iC aC ((0 : Int32)))) hD
  refine lv_aload_n hx hb dX1_clear_5 rfl (lv_at hl 0 rfl) ?_
  refine lv_iconst (v := 0) hx hb dX1_clear_6 (by decide) ?_
  refine va_put (D := (dC, dI)) (ci := 1) (v := .int ((0 : Int32))) (ty := .int) (C := RX1) (T := TX1) (N := 10) hx hb hts ki1 tyX1 tyX1_ok nmX1 hown hK hP hD hS 0 rfl rfl 9 (by decide) kf40 (fun _ h9 => h9) rfl (by decide +kernel) rfl rfl (Nat.le_of_ble_eq_true rfl) dX1_clear_7 (fun H locs hP hD hS => ?_)
  have hP : va_P (dC, dI) vwCl (zzC ad cy (us iC [(4, (0 : Int32)), (9, (0 : Int32))]) aC) H := Eq.mp (congrArg (fun w => va_P (dC, dI) vwCl w H) (stC_iC9 ad cy iC aC [(4, (0 : Int32))] ((0 : Int32)))) hP
  have hD : va_D A (zzC ad cy (us iC [(4, (0 : Int32)), (9, (0 : Int32))]) aC) := Eq.mp (congrArg (fun w => va_D A w) (stC_iC9 ad cy iC aC [(4, (0 : Int32))] ((0 : Int32)))) hD
  have h' := Option.some.inj h
  rw [← hQQ]
  exact W.vret hx hb hr (fun t ht hW => ⟨⟨(), rfl, trivial, by rw [← hWQ, ← h', ht]; exact hP, va_K.moved hW.alike hK⟩, hS.F ht⟩) hS.2.2 dX1_clear_10
