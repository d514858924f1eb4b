def f_B_addRole (a1 : Int64) (iB5 : Int32) (lB4 : Nat → Int64) : Option (Int32 × Int32 × (Nat → Int64)) := if iB5 < (3 : Int32) then (if iB5 < 0 ∨ 3 ≤ iB5.toNatClampNeg then none else (some (((iB5 + (1 : Int32)) - (1 : Int32)), (iB5 + (1 : Int32)), (vp_updL lB4 iB5.toNatClampNeg a1)))) else (some ((-1 : Int32), iB5, lB4))
set_option maxHeartbeats 8000000 in
set_option maxRecDepth 100000 in
theorem c_B_addRole (l : Launch) (dC : Nat → ClassId) (dI : Nat → Nat → Nat) (cy : Nat → ClassId) (ad : Nat → Nat) (sz : Nat) (a1 : Int64) (iB : Nat → Int32) (lB : Nat → Nat → Int64) (aB : Nat → Nat → Int32) (iC : Nat → Int32) (aC : Nat → Nat → Int32) (q : Int32 × Int32 × (Nat → Int64)) (h : f_B_addRole a1 (iB 5) (lB 4) = some q) : Met l yX0_addRole wsX0_addRole ({ frames := 0, cells := 0, slots := 0, locals := 0 } : Room) (cP (dC, dI) cy [.ref (ad 0), .long a1] (zzB ad cy iB lB aB iC aC) sz) (cQi (dC, dI) cy q.1 (zzB ad cy (us iB [(5, q.2.1)]) (us lB [(4, q.2.2)]) aB iC aC) (va_A (zzB ad cy iB lB aB iC aC) sz)) 0 0 (va_A (zzB ad cy iB lB aB iC aC) sz) := by
  refine Met.ofW (cc := cX0_addRole) (maxL := 3) (ret := (some .int)) (by decide) rfl ?_
  intro p e s m args below meth c s₁ B hml hv
  obtain ⟨hav, hsz, hP, hK, hD0, hN⟩ := hv
  have hx := B.exec
  have hb := B.bytes
  have hr := B.returns
  have hts := atoms_spec (ws := wsX0_addRole) B.pre
  have hown : s.vm.findClass RX0 = some m.cls := findClass_of_methodNamed B.named
  have hlocks := B.notSynchronized
  subst hsz
  have hD := hD0.self (sz := s.heap.size)
  generalize hAe : va_A (zzB ad cy iB lB aB iC aC) s.heap.size = A at hD ⊢
  have hA : ∀ q : Nat, s.heap.size ≤ q → A q := fun q h => by rw [← hAe]; exact Or.inr h
  have hS : va_S A s.heap s.heap [] := va_S.rf
  generalize hWQ : (zzB ad cy (us iB [(5, q.2.1)]) (us lB [(4, q.2.2)]) aB iC aC) = WQ
  generalize hQQ : MQ below (cQi (dC, dI) cy q.1 WQ A) args s 0 0 A = QQ
  have hl := lv_entry ([.ref (ad 0), .long a1] : List Value) (n := 3) (Nat.le_of_ble_eq_true rfl)
  have hfr := lg_entry_eq m ([.ref (ad 0), .long a1] : List Value) 3
  rw [← hav] at hfr
  rw [hfr]
  clear hfr hav
  generalize (lg_sl ([.ref (ad 0), .long a1] : List Value) ++ List.replicate (3 - (lg_sl ([.ref (ad 0), .long a1] : List Value)).length) Slot.unset).toArray = ls at hl ⊢
  have hl : lv_has ls 3 [(0, .ref (ad 0)), (1, .long a1)] := hl
  have kf48 := hts _ (List.mem_cons_of_mem _ m_fl_X0_48)
  have ki0 := (fun w h => List.mem_cons_of_mem _ (i_X0 w h) : ∀ w ∈ u_ws RX0 TX0 15, w ∈ wsX0_addRole)
  have kf22 := hts _ (List.mem_cons_of_mem _ m_fl_X0_22)
  refine (?_ : ∀ (H : Heap) (locs : List Loc), va_P (dC, dI) vwCl (zzB ad cy iB lB aB iC aC) H → va_D A (zzB ad cy iB lB aB iC aC) → va_S A s.heap H locs → W p l e ({ frames := 0, cells := 0, slots := 0, locals := 0 } : Room) s m args below meth c H locs 0 0 QQ (F0 m 0 ls [])) s.heap [] hP hD hS
  clear hP hD hS
  intro H locs hP hD hS
  unfold f_B_addRole at h
  refine lv_aload_n hx hb dX0_addRole_0 rfl (lv_at hl 0 rfl) ?_
  refine va_get (D := (dC, dI)) (ci := 0) (v := .int (iB 5)) (C := RX0) (T := TX0) (N := 15) hx hb hts ki0 hown hK hP 0 rfl rfl 5 (by decide) kf48 (fun _ h9 => h9) rfl dX0_addRole_1 ?_
  refine lv_iconst (v := 3) hx hb dX0_addRole_4 (by decide) ?_
  refine lv_icmp_lt (tgt := 10) hx hb dX0_addRole_5 (by decide) (fun cz => ?_) (fun cz => ?_)
  · have h := g_t h cz
    refine lv_aload_n hx hb dX0_addRole_10 rfl (lv_at hl 0 rfl) ?_
    refine va_get (D := (dC, dI)) (ci := 0) (v := .ref (ad 2)) (C := RX0) (T := TX0) (N := 15) hx hb hts ki0 hown hK hP 0 rfl rfl 4 (by decide) kf22 (fun _ h9 => h9) rfl dX0_addRole_11 ?_
    refine lv_aload_n hx hb dX0_addRole_14 rfl (lv_at hl 0 rfl) ?_
    refine va_get (D := (dC, dI)) (ci := 0) (v := .int (iB 5)) (C := RX0) (T := TX0) (N := 15) hx hb hts ki0 hown hK hP 0 rfl rfl 5 (by decide) kf48 (fun _ h9 => h9) rfl dX0_addRole_15 ?_
    refine lv_lload_n hx hb dX0_addRole_18 rfl (lv_at hl 1 rfl) ?_
    obtain ⟨g_7, h⟩ := g_n h
    refine va_last (f := (lB 4)) hx hb hK hP hD hS 2 2 rfl rfl g_7 dX0_addRole_19 (fun H locs hP hD hS => ?_)
    have hP : va_P (dC, dI) vwCl (zzB ad cy iB (us lB [(4, (vp_updL (lB 4) (iB 5).toNatClampNeg a1))]) aB iC aC) H := Eq.mp (congrArg (fun w => va_P (dC, dI) vwCl w H) (sfB_lB4 ad cy iB lB aB iC aC ((vp_updL (lB 4) (iB 5).toNatClampNeg a1)))) hP
    have hD : va_D A (zzB ad cy iB (us lB [(4, (vp_updL (lB 4) (iB 5).toNatClampNeg a1))]) aB iC aC) := Eq.mp (congrArg (fun w => va_D A w) (sfB_lB4 ad cy iB lB aB iC aC ((vp_updL (lB 4) (iB 5).toNatClampNeg a1)))) hD
    refine lv_aload_n hx hb dX0_addRole_20 rfl (lv_at hl 0 rfl) ?_
    refine lv_dup hx hb dX0_addRole_21 rfl ?_
    refine va_get (D := (dC, dI)) (ci := 0) (v := .int (iB 5)) (C := RX0) (T := TX0) (N := 15) hx hb hts ki0 hown hK hP 0 rfl rfl 5 (by decide) kf48 (fun _ h9 => h9) rfl dX0_addRole_22 ?_
    refine lv_iconst (v := 1) hx hb dX0_addRole_25 (by decide) ?_
    refine lv_iadd hx hb dX0_addRole_26 ?_
    refine va_put (D := (dC, dI)) (ci := 0) (v := .int (((iB 5) + (1 : Int32)))) (ty := .int) (C := RX0) (T := TX0) (N := 15) hx hb hts ki0 tyX0 tyX0_ok nmX0 hown hK hP hD hS 0 rfl rfl 5 (by decide) kf48 (fun _ h9 => h9) rfl (by decide +kernel) rfl rfl (Nat.le_of_ble_eq_true rfl) dX0_addRole_27 (fun H locs hP hD hS => ?_)
    have hP : va_P (dC, dI) vwCl (zzB ad cy (us iB [(5, ((iB 5) + (1 : Int32)))]) (us lB [(4, (vp_updL (lB 4) (iB 5).toNatClampNeg a1))]) aB iC aC) H := Eq.mp (congrArg (fun w => va_P (dC, dI) vwCl w H) (sfB_iB5 ad cy iB (us lB [(4, (vp_updL (lB 4) (iB 5).toNatClampNeg a1))]) aB iC aC (((iB 5) + (1 : Int32))))) hP
    have hD : va_D A (zzB ad cy (us iB [(5, ((iB 5) + (1 : Int32)))]) (us lB [(4, (vp_updL (lB 4) (iB 5).toNatClampNeg a1))]) aB iC aC) := Eq.mp (congrArg (fun w => va_D A w) (sfB_iB5 ad cy iB (us lB [(4, (vp_updL (lB 4) (iB 5).toNatClampNeg a1))]) aB iC aC (((iB 5) + (1 : Int32))))) hD
    refine lv_aload_n hx hb dX0_addRole_30 rfl (lv_at hl 0 rfl) ?_
    refine va_get (D := (dC, dI)) (ci := 0) (v := .int (((iB 5) + (1 : Int32)))) (C := RX0) (T := TX0) (N := 15) hx hb hts ki0 hown hK hP 0 rfl rfl 5 (by decide) kf48 (fun _ h9 => h9) rfl dX0_addRole_31 ?_
    refine lv_iconst (v := 1) hx hb dX0_addRole_34 (by decide) ?_
    refine lv_isub hx hb dX0_addRole_35 ?_
    have h' := Option.some.inj h
    rw [← hQQ]
    exact W.iret (v := (((iB 5) + (1 : Int32)) - (1 : Int32))) hx hb hr (fun t ht hW => ⟨⟨(((iB 5) + (1 : Int32)) - (1 : Int32)), (), rfl, by rw [← h'], by rw [← hWQ, ← h', ht]; exact hP, va_K.moved hW.alike hK⟩, hS.F ht⟩) hS.2.2 dX0_addRole_36
  · have h := g_f h cz
    refine lv_iconst (v := (-1)) hx hb dX0_addRole_8 (by decide) ?_
    have h' := Option.some.inj h
    rw [← hQQ]
    exact W.iret (v := (-1 : Int32)) hx hb hr (fun t ht hW => ⟨⟨(-1 : Int32), (), rfl, by rw [← h'], by rw [← hWQ, ← h', ht]; exact hP, va_K.moved hW.alike hK⟩, hS.F ht⟩) hS.2.2 dX0_addRole_9
