def f_R_fail (a1 : Int32) (a2 : Int32) (iR3 : Int32) (iR4 : Int32) : Option (Int32 × Int32 × Int32) := some ((-1 : Int32), a1, a2)
set_option maxHeartbeats 8000000 in
set_option maxRecDepth 100000 in
theorem c_R_fail (l : Launch) (dC : Nat → ClassId) (dI : Nat → Nat → Nat) (cy : Nat → ClassId) (ad : Nat → Nat) (sz : Nat) (a1 : Int32) (a2 : Int32) (iR : Nat → Int32) (iT : Nat → Int32) (wT : Int64) (tx : Nat → Int32) (iB : Nat → Int32) (lB : Nat → Nat → Int64) (aB : Nat → Nat → Int32) (iC : Nat → Int32) (aC : Nat → Nat → Int32) (q : Int32 × Int32 × Int32) (h : f_R_fail a1 a2 (iR 3) (iR 4) = some q) : Met l yX4_fail wsX4_fail ({ frames := 0, cells := 0, slots := 0, locals := 0 } : Room) (cP (dC, dI) cy [.ref (ad 0), .int a1, .int a2] (zzR ad cy (ad 3) (ad 10) iR iT wT tx iB lB aB iC aC) sz) (cQi (dC, dI) cy q.1 (zzR ad cy (ad 3) (ad 10) (us iR [(3, q.2.1), (4, q.2.2)]) iT wT tx iB lB aB iC aC) (va_A (zzR ad cy (ad 3) (ad 10) iR iT wT tx iB lB aB iC aC) sz)) 0 0 (va_A (zzR ad cy (ad 3) (ad 10) iR iT wT tx iB lB aB iC aC) sz) := by
  refine Met.ofW (cc := cX4_fail) (maxL := 3) (ret := (some .int)) (by decide) rfl ?_
  intro p e s m args below meth c s₁ B hml hv
  obtain ⟨hav, hsz, hP, hK, hD0, hN⟩ := hv
  have hx := B.exec
  have hb := B.bytes
  have hr := B.returns
  have hts := atoms_spec (ws := wsX4_fail) B.pre
  have hown : s.vm.findClass RX4 = some m.cls := findClass_of_methodNamed B.named
  have hlocks := B.notSynchronized
  subst hsz
  have hD := hD0.self (sz := s.heap.size)
  generalize hAe : va_A (zzR ad cy (ad 3) (ad 10) iR iT wT tx iB lB aB iC aC) s.heap.size = A at hD ⊢
  have hA : ∀ q : Nat, s.heap.size ≤ q → A q := fun q h => by rw [← hAe]; exact Or.inr h
  have hS : va_S A s.heap s.heap [] := va_S.rf
  generalize hWQ : (zzR ad cy (ad 3) (ad 10) (us iR [(3, q.2.1), (4, q.2.2)]) iT wT tx iB lB aB iC aC) = WQ
  generalize hQQ : MQ below (cQi (dC, dI) cy q.1 WQ A) args s 0 0 A = QQ
  have hl := lv_entry ([.ref (ad 0), .int a1, .int a2] : List Value) (n := 3) (Nat.le_of_ble_eq_true rfl)
  have hfr := lg_entry_eq m ([.ref (ad 0), .int a1, .int a2] : List Value) 3
  rw [← hav] at hfr
  rw [hfr]
  clear hfr hav
  generalize (lg_sl ([.ref (ad 0), .int a1, .int a2] : List Value) ++ List.replicate (3 - (lg_sl ([.ref (ad 0), .int a1, .int a2] : List Value)).length) Slot.unset).toArray = ls at hl ⊢
  have hl : lv_has ls 3 [(0, .ref (ad 0)), (1, .int a1), (2, .int a2)] := hl
  have kf38 := hts _ (List.mem_cons_of_mem _ m_fl_X4_38)
  have ki4 := (fun w h => List.mem_cons_of_mem _ (i_X4 w h) : ∀ w ∈ u_ws RX4 TX4 5, w ∈ wsX4_fail)
  have kf9 := hts _ (List.mem_cons_of_mem _ m_fl_X4_9)
  refine (?_ : ∀ (H : Heap) (locs : List Loc), va_P (dC, dI) vwCl (zzR ad cy (ad 3) (ad 10) iR iT wT tx iB lB aB iC aC) H → va_D A (zzR ad cy (ad 3) (ad 10) iR iT wT tx iB lB aB iC aC) → va_S A s.heap H locs → W p l e ({ frames := 0, cells := 0, slots := 0, locals := 0 } : Room) s m args below meth c H locs 0 0 QQ (F0 m 0 ls [])) s.heap [] hP hD hS
  clear hP hD hS
  intro H locs hP hD hS
  unfold f_R_fail at h
  refine lv_aload_n hx hb dX4_fail_0 rfl (lv_at hl 0 rfl) ?_
  refine lv_iload_n hx hb dX4_fail_1 rfl (lv_at hl 1 rfl) ?_
  refine va_put (D := (dC, dI)) (ci := 4) (v := .int a1) (ty := .int) (C := RX4) (T := TX4) (N := 5) hx hb hts ki4 tyX4 tyX4_ok nmX4 hown hK hP hD hS 0 rfl rfl 3 (by decide) kf38 (fun _ h9 => h9) rfl (by decide +kernel) rfl rfl (Nat.le_of_ble_eq_true rfl) dX4_fail_2 (fun H locs hP hD hS => ?_)
  have hP : va_P (dC, dI) vwCl (zzR ad cy (ad 3) (ad 10) (us iR [(3, a1)]) iT wT tx iB lB aB iC aC) H := Eq.mp (congrArg (fun w => va_P (dC, dI) vwCl w H) (sfR_iR3 ad cy (ad 3) (ad 10) iR iT wT tx iB lB aB iC aC a1)) hP
  have hD : va_D A (zzR ad cy (ad 3) (ad 10) (us iR [(3, a1)]) iT wT tx iB lB aB iC aC) := Eq.mp (congrArg (fun w => va_D A w) (sfR_iR3 ad cy (ad 3) (ad 10) iR iT wT tx iB lB aB iC aC a1)) hD
  refine lv_aload_n hx hb dX4_fail_5 rfl (lv_at hl 0 rfl) ?_
  refine lv_iload_n hx hb dX4_fail_6 rfl (lv_at hl 2 rfl) ?_
  refine va_put (D := (dC, dI)) (ci := 4) (v := .int a2) (ty := .int) (C := RX4) (T := TX4) (N := 5) hx hb hts ki4 tyX4 tyX4_ok nmX4 hown hK hP hD hS 0 rfl rfl 4 (by decide) kf9 (fun _ h9 => h9) rfl (by decide +kernel) rfl rfl (Nat.le_of_ble_eq_true rfl) dX4_fail_7 (fun H locs hP hD hS => ?_)
  have hP : va_P (dC, dI) vwCl (zzR ad cy (ad 3) (ad 10) (us iR [(3, a1), (4, a2)]) iT wT tx iB lB aB iC aC) H := Eq.mp (congrArg (fun w => va_P (dC, dI) vwCl w H) (stR_iR4 ad cy (ad 3) (ad 10) iR iT wT tx iB lB aB iC aC [(3, a1)] a2)) hP
  have hD : va_D A (zzR ad cy (ad 3) (ad 10) (us iR [(3, a1), (4, a2)]) iT wT tx iB lB aB iC aC) := Eq.mp (congrArg (fun w => va_D A w) (stR_iR4 ad cy (ad 3) (ad 10) iR iT wT tx iB lB aB iC aC [(3, a1)] a2)) hD
  refine lv_iconst (v := (-1)) hx hb dX4_fail_10 (by decide) ?_
  have h' := Option.some.inj h
  rw [← hQQ]
  exact W.iret (v := (-1 : Int32)) hx hb hr (fun t ht hW => ⟨⟨(-1 : Int32), (), rfl, by rw [← h'], by rw [← hWQ, ← h', ht]; exact hP, va_K.moved hW.alike hK⟩, hS.F ht⟩) hS.2.2 dX4_fail_11
