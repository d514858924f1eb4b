def f_B_addStatement (a1 : Int32) (a2 : Int32) (a3 : Int32) (iB7 : Int32) (aB6 : Nat → Int32) : Option (Int32 × Int32 × (Nat → Int32)) := if (246 : Int32) ≤ iB7 then (some (((a1 ||| (a2 <<< ((8 : Int32) &&& 31))) ||| (a3 <<< ((16 : Int32) &&& 31))), iB7, aB6)) else (if iB7 < 0 ∨ 246 ≤ iB7.toNatClampNeg then none else (some (((a1 ||| (a2 <<< ((8 : Int32) &&& 31))) ||| (a3 <<< ((16 : Int32) &&& 31))), (iB7 + (1 : Int32)), (upd aB6 iB7.toNatClampNeg (((a1 ||| (a2 <<< ((8 : Int32) &&& 31))) ||| (a3 <<< ((16 : Int32) &&& 31))))))))
set_option maxHeartbeats 8000000 in
set_option maxRecDepth 100000 in
theorem c_B_addStatement (l : Launch) (dC : Nat → ClassId) (dI : Nat → Nat → Nat) (cy : Nat → ClassId) (ad : Nat → Nat) (sz : Nat) (a1 : Int32) (a2 : Int32) (a3 : Int32) (iB : Nat → Int32) (lB : Nat → Nat → Int64) (aB : Nat → Nat → Int32) (iC : Nat → Int32) (aC : Nat → Nat → Int32) (q : Int32 × Int32 × (Nat → Int32)) (h : f_B_addStatement a1 a2 a3 (iB 7) (aB 6) = some q) : Met l yX0_addStatement wsX0_addStatement ({ frames := 0, cells := 0, slots := 0, locals := 0 } : Room) (cP (dC, dI) cy [.ref (ad 0), .int a1, .int a2, .int a3] (zzB ad cy iB lB aB iC aC) sz) (cQi (dC, dI) cy q.1 (zzB ad cy (us iB [(7, q.2.1)]) lB (us aB [(6, q.2.2)]) iC aC) (va_A (zzB ad cy iB lB aB iC aC) sz)) 0 0 (va_A (zzB ad cy iB lB aB iC aC) sz) := by
  refine Met.ofW (cc := cX0_addStatement) (maxL := 5) (ret := (some .int)) (by decide) rfl ?_
  intro p e s m args below meth c s₁ B hml hv
  obtain ⟨hav, hsz, hP, hK, hD0, hN⟩ := hv
  have hx := B.exec
  have hb := B.bytes
  have hr := B.returns
  have hts := atoms_spec (ws := wsX0_addStatement) B.pre
  have hown : s.vm.findClass RX0 = some m.cls := findClass_of_methodNamed B.named
  have hlocks := B.notSynchronized
  subst hsz
  have hD := hD0.self (sz := s.heap.size)
  generalize hAe : va_A (zzB ad cy iB lB aB iC aC) s.heap.size = A at hD ⊢
  have hA : ∀ q : Nat, s.heap.size ≤ q → A q := fun q h => by rw [← hAe]; exact Or.inr h
  have hS : va_S A s.heap s.heap [] := va_S.rf
  generalize hWQ : (zzB ad cy (us iB [(7, q.2.1)]) lB (us aB [(6, q.2.2)]) iC aC) = WQ
  generalize hQQ : MQ below (cQi (dC, dI) cy q.1 WQ A) args s 0 0 A = QQ
  have hl := lv_entry ([.ref (ad 0), .int a1, .int a2, .int a3] : List Value) (n := 5) (Nat.le_of_ble_eq_true rfl)
  have hfr := lg_entry_eq m ([.ref (ad 0), .int a1, .int a2, .int a3] : List Value) 5
  rw [← hav] at hfr
  rw [hfr]
  clear hfr hav
  generalize (lg_sl ([.ref (ad 0), .int a1, .int a2, .int a3] : List Value) ++ List.replicate (5 - (lg_sl ([.ref (ad 0), .int a1, .int a2, .int a3] : List Value)).length) Slot.unset).toArray = ls at hl ⊢
  have hl : lv_has ls 5 [(0, .ref (ad 0)), (1, .int a1), (2, .int a2), (3, .int a3)] := hl
  have kf51 := hts _ (List.mem_cons_of_mem _ m_fl_X0_51)
  have ki0 := (fun w h => List.mem_cons_of_mem _ (i_X0 w h) : ∀ w ∈ u_ws RX0 TX0 15, w ∈ wsX0_addStatement)
  have kf25 := hts _ (List.mem_cons_of_mem _ m_fl_X0_25)
  refine (?_ : ∀ (H : Heap) (locs : List Loc), va_P (dC, dI) vwCl (zzB ad cy iB lB aB iC aC) H → va_D A (zzB ad cy iB lB aB iC aC) → va_S A s.heap H locs → W p l e ({ frames := 0, cells := 0, slots := 0, locals := 0 } : Room) s m args below meth c H locs 0 0 QQ (F0 m 0 ls [])) s.heap [] hP hD hS
  clear hP hD hS
  intro H locs hP hD hS
  unfold f_B_addStatement at h
  refine lv_iload_n hx hb dX0_addStatement_0 rfl (lv_at hl 1 rfl) ?_
  refine lv_iload_n hx hb dX0_addStatement_1 rfl (lv_at hl 2 rfl) ?_
  refine lv_bipush (v := 8) hx hb dX0_addStatement_2 (by decide) ?_
  refine lv_ishl hx hb dX0_addStatement_4 ?_
  refine lv_ior hx hb dX0_addStatement_5 ?_
  refine lv_iload_n hx hb dX0_addStatement_6 rfl (lv_at hl 3 rfl) ?_
  refine lv_bipush (v := 16) hx hb dX0_addStatement_7 (by decide) ?_
  refine lv_ishl hx hb dX0_addStatement_9 ?_
  refine lv_ior hx hb dX0_addStatement_10 ?_
  refine lv_istore (lv' := [(4, .int (((a1 ||| (a2 <<< ((8 : Int32) &&& 31))) ||| (a3 <<< ((16 : Int32) &&& 31))))), (0, .ref (ad 0)), (1, .int a1), (2, .int a2), (3, .int a3)]) hx hb dX0_addStatement_11 hl (by decide) rfl (fun ls hl => ?_)
  refine lv_aload_n hx hb dX0_addStatement_13 rfl (lv_at hl 1 rfl) ?_
  refine va_get (D := (dC, dI)) (ci := 0) (v := .int (iB 7)) (C := RX0) (T := TX0) (N := 15) hx hb hts ki0 hown hK hP 0 rfl rfl 7 (by decide) kf51 (fun _ h9 => h9) rfl dX0_addStatement_14 ?_
  refine lv_sipush (v := 246) hx hb dX0_addStatement_17 (by decide) ?_
  refine lv_icmp_ge (tgt := 44) hx hb dX0_addStatement_20 (by decide) (fun cz => ?_) (fun cz => ?_)
  · have h := g_t h cz
    refine lv_iload hx hb dX0_addStatement_44 (lv_at hl 0 rfl) ?_
    have h' := Option.some.inj h
    rw [← hQQ]
    exact W.iret (v := ((a1 ||| (a2 <<< ((8 : Int32) &&& 31))) ||| (a3 <<< ((16 : Int32) &&& 31)))) hx hb hr (fun t ht hW => ⟨⟨((a1 ||| (a2 <<< ((8 : Int32) &&& 31))) ||| (a3 <<< ((16 : Int32) &&& 31))), (), rfl, by rw [← h'], by rw [← hWQ, ← h', ht]; exact hP, va_K.moved hW.alike hK⟩, hS.F ht⟩) hS.2.2 dX0_addStatement_46
  · have h := g_f h cz
    refine lv_aload_n hx hb dX0_addStatement_23 rfl (lv_at hl 1 rfl) ?_
    refine va_get (D := (dC, dI)) (ci := 0) (v := .ref (ad 3)) (C := RX0) (T := TX0) (N := 15) hx hb hts ki0 hown hK hP 0 rfl rfl 6 (by decide) kf25 (fun _ h9 => h9) rfl dX0_addStatement_24 ?_
    refine lv_aload_n hx hb dX0_addStatement_27 rfl (lv_at hl 1 rfl) ?_
    refine va_get (D := (dC, dI)) (ci := 0) (v := .int (iB 7)) (C := RX0) (T := TX0) (N := 15) hx hb hts ki0 hown hK hP 0 rfl rfl 7 (by decide) kf51 (fun _ h9 => h9) rfl dX0_addStatement_28 ?_
    refine lv_iload hx hb dX0_addStatement_31 (lv_at hl 0 rfl) ?_
    obtain ⟨g_14, h⟩ := g_n h
    refine va_iast (f := (aB 6)) hx hb hK hP hD hS 3 0 rfl rfl g_14 dX0_addStatement_33 (fun H locs hP hD hS => ?_)
    have hP : va_P (dC, dI) vwCl (zzB ad cy iB lB (us aB [(6, (upd (aB 6) (iB 7).toNatClampNeg (((a1 ||| (a2 <<< ((8 : Int32) &&& 31))) ||| (a3 <<< ((16 : Int32) &&& 31))))))]) iC aC) H := Eq.mp (congrArg (fun w => va_P (dC, dI) vwCl w H) (sfB_aB6 ad cy iB lB aB iC aC ((upd (aB 6) (iB 7).toNatClampNeg (((a1 ||| (a2 <<< ((8 : Int32) &&& 31))) ||| (a3 <<< ((16 : Int32) &&& 31)))))))) hP
    have hD : va_D A (zzB ad cy iB lB (us aB [(6, (upd (aB 6) (iB 7).toNatClampNeg (((a1 ||| (a2 <<< ((8 : Int32) &&& 31))) ||| (a3 <<< ((16 : Int32) &&& 31))))))]) iC aC) := Eq.mp (congrArg (fun w => va_D A w) (sfB_aB6 ad cy iB lB aB iC aC ((upd (aB 6) (iB 7).toNatClampNeg (((a1 ||| (a2 <<< ((8 : Int32) &&& 31))) ||| (a3 <<< ((16 : Int32) &&& 31)))))))) hD
    refine lv_aload_n hx hb dX0_addStatement_34 rfl (lv_at hl 1 rfl) ?_
    refine lv_dup hx hb dX0_addStatement_35 rfl ?_
    refine va_get (D := (dC, dI)) (ci := 0) (v := .int (iB 7)) (C := RX0) (T := TX0) (N := 15) hx hb hts ki0 hown hK hP 0 rfl rfl 7 (by decide) kf51 (fun _ h9 => h9) rfl dX0_addStatement_36 ?_
    refine lv_iconst (v := 1) hx hb dX0_addStatement_39 (by decide) ?_
    refine lv_iadd hx hb dX0_addStatement_40 ?_
    refine va_put (D := (dC, dI)) (ci := 0) (v := .int (((iB 7) + (1 : Int32)))) (ty := .int) (C := RX0) (T := TX0) (N := 15) hx hb hts ki0 tyX0 tyX0_ok nmX0 hown hK hP hD hS 0 rfl rfl 7 (by decide) kf51 (fun _ h9 => h9) rfl (by decide +kernel) rfl rfl (Nat.le_of_ble_eq_true rfl) dX0_addStatement_41 (fun H locs hP hD hS => ?_)
    have hP : va_P (dC, dI) vwCl (zzB ad cy (us iB [(7, ((iB 7) + (1 : Int32)))]) lB (us aB [(6, (upd (aB 6) (iB 7).toNatClampNeg (((a1 ||| (a2 <<< ((8 : Int32) &&& 31))) ||| (a3 <<< ((16 : Int32) &&& 31))))))]) iC aC) H := Eq.mp (congrArg (fun w => va_P (dC, dI) vwCl w H) (sfB_iB7 ad cy iB lB (us aB [(6, (upd (aB 6) (iB 7).toNatClampNeg (((a1 ||| (a2 <<< ((8 : Int32) &&& 31))) ||| (a3 <<< ((16 : Int32) &&& 31))))))]) iC aC (((iB 7) + (1 : Int32))))) hP
    have hD : va_D A (zzB ad cy (us iB [(7, ((iB 7) + (1 : Int32)))]) lB (us aB [(6, (upd (aB 6) (iB 7).toNatClampNeg (((a1 ||| (a2 <<< ((8 : Int32) &&& 31))) ||| (a3 <<< ((16 : Int32) &&& 31))))))]) iC aC) := Eq.mp (congrArg (fun w => va_D A w) (sfB_iB7 ad cy iB lB (us aB [(6, (upd (aB 6) (iB 7).toNatClampNeg (((a1 ||| (a2 <<< ((8 : Int32) &&& 31))) ||| (a3 <<< ((16 : Int32) &&& 31))))))]) iC aC (((iB 7) + (1 : Int32))))) hD
    refine lv_iload hx hb dX0_addStatement_44 (lv_at hl 0 rfl) ?_
    have h' := Option.some.inj h
    rw [← hQQ]
    exact W.iret (v := ((a1 ||| (a2 <<< ((8 : Int32) &&& 31))) ||| (a3 <<< ((16 : Int32) &&& 31)))) hx hb hr (fun t ht hW => ⟨⟨((a1 ||| (a2 <<< ((8 : Int32) &&& 31))) ||| (a3 <<< ((16 : Int32) &&& 31))), (), rfl, by rw [← h'], by rw [← hWQ, ← h', ht]; exact hP, va_K.moved hW.alike hK⟩, hS.F ht⟩) hS.2.2 dX0_addStatement_46
