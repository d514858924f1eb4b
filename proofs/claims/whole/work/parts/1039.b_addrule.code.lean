def f_B_addRule (a1 : Int32) (a2 : Int32) (a3 : Int32) (iB7 : Int32) (iB9 : Int32) (aB6 : Nat → Int32) (aB8 : Nat → Int32) : Option (Int32 × Int32 × (Nat → Int32) × (Nat → Int32)) := if (12 : Int32) ≤ iB9 then (some (iB7, iB9, aB6, aB8)) else ((f_B_addStatement a1 a2 a3 iB7 aB6).bind fun q21 => (if iB9 < 0 ∨ 12 ≤ iB9.toNatClampNeg then none else (some (q21.2.1, (iB9 + (1 : Int32)), q21.2.2, (upd aB8 iB9.toNatClampNeg q21.1)))))
set_option maxHeartbeats 8000000 in
set_option maxRecDepth 100000 in
theorem c_B_addRule (l : Launch) (dC : Nat → ClassId) (dI : Nat → Nat → Nat) (cy : Nat → ClassId) (ad : Nat → Nat) (sz : Nat) (a1 : Int32) (a2 : Int32) (a3 : Int32) (iB : Nat → Int32) (lB : Nat → Nat → Int64) (aB : Nat → Nat → Int32) (iC : Nat → Int32) (aC : Nat → Nat → Int32) (q : Int32 × Int32 × (Nat → Int32) × (Nat → Int32)) (h : f_B_addRule a1 a2 a3 (iB 7) (iB 9) (aB 6) (aB 8) = some q) : Met l yX0_addRule wsX0_addRule ({ frames := 1, cells := 0, slots := 0, locals := 24 } : Room) (cP (dC, dI) cy [.ref (ad 0), .int a1, .int a2, .int a3] (zzB ad cy iB lB aB iC aC) sz) (cQv (dC, dI) cy (zzB ad cy (us iB [(7, q.1), (9, q.2.1)]) lB (us aB [(6, q.2.2.1), (8, q.2.2.2)]) iC aC) (va_A (zzB ad cy iB lB aB iC aC) sz)) 0 0 (va_A (zzB ad cy iB lB aB iC aC) sz) := by
  refine Met.ofW (cc := cX0_addRule) (maxL := 4) (ret := none) (by decide) rfl ?_
  intro p e s m args below meth c s₁ B hml hv
  obtain ⟨hav, hsz, hP, hK, hD0, hN⟩ := hv
  have hx := B.exec
  have hb := B.bytes
  have hr := B.returns
  have hts := atoms_spec (ws := wsX0_addRule) B.pre
  have hown : s.vm.findClass RX0 = some m.cls := findClass_of_methodNamed B.named
  have hlocks := B.notSynchronized
  subst hsz
  have hD := hD0.self (sz := s.heap.size)
  generalize hAe : va_A (zzB ad cy iB lB aB iC aC) s.heap.size = A at hD ⊢
  have hA : ∀ q : Nat, s.heap.size ≤ q → A q := fun q h => by rw [← hAe]; exact Or.inr h
  have hS : va_S A s.heap s.heap [] := va_S.rf
  generalize hWQ : (zzB ad cy (us iB [(7, q.1), (9, q.2.1)]) lB (us aB [(6, q.2.2.1), (8, q.2.2.2)]) iC aC) = WQ
  generalize hQQ : MQ below (cQv (dC, dI) cy WQ A) args s 0 0 A = QQ
  have hl := lv_entry ([.ref (ad 0), .int a1, .int a2, .int a3] : List Value) (n := 4) (Nat.le_of_ble_eq_true rfl)
  have hfr := lg_entry_eq m ([.ref (ad 0), .int a1, .int a2, .int a3] : List Value) 4
  rw [← hav] at hfr
  rw [hfr]
  clear hfr hav
  generalize (lg_sl ([.ref (ad 0), .int a1, .int a2, .int a3] : List Value) ++ List.replicate (4 - (lg_sl ([.ref (ad 0), .int a1, .int a2, .int a3] : List Value)).length) Slot.unset).toArray = ls at hl ⊢
  have hl : lv_has ls 4 [(0, .ref (ad 0)), (1, .int a1), (2, .int a2), (3, .int a3)] := hl
  have kf54 := hts _ (List.mem_cons_of_mem _ m_fl_X0_54)
  have ki0 := (fun w h => List.mem_cons_of_mem _ (i_X0 w h) : ∀ w ∈ u_ws RX0 TX0 15, w ∈ wsX0_addRule)
  have kf29 := hts _ (List.mem_cons_of_mem _ m_fl_X0_29)
  refine (?_ : ∀ (H : Heap) (locs : List Loc), va_P (dC, dI) vwCl (zzB ad cy iB lB aB iC aC) H → va_D A (zzB ad cy iB lB aB iC aC) → va_S A s.heap H locs → W p l e ({ frames := 1, cells := 0, slots := 0, locals := 24 } : Room) s m args below meth c H locs 0 0 QQ (F0 m 0 ls [])) s.heap [] hP hD hS
  clear hP hD hS
  intro H locs hP hD hS
  unfold f_B_addRule at h
  refine lv_aload_n hx hb dX0_addRule_0 rfl (lv_at hl 0 rfl) ?_
  refine va_get (D := (dC, dI)) (ci := 0) (v := .int (iB 9)) (C := RX0) (T := TX0) (N := 15) hx hb hts ki0 hown hK hP 0 rfl rfl 9 (by decide) kf54 (fun _ h9 => h9) rfl dX0_addRule_1 ?_
  refine lv_bipush (v := 12) hx hb dX0_addRule_4 (by decide) ?_
  refine lv_icmp_ge (tgt := 35) hx hb dX0_addRule_6 (by decide) (fun cz => ?_) (fun cz => ?_)
  · have h := g_t h cz
    have h' := Option.some.inj h
    rw [← hQQ]
    exact W.vret hx hb hr (fun t ht hW => ⟨⟨(), rfl, trivial, by rw [← hWQ, ← h', ht]; exact hP, va_K.moved hW.alike hK⟩, hS.F ht⟩) hS.2.2 dX0_addRule_35
  · have h := g_f h cz
    refine lv_aload_n hx hb dX0_addRule_9 rfl (lv_at hl 0 rfl) ?_
    refine va_get (D := (dC, dI)) (ci := 0) (v := .ref (ad 4)) (C := RX0) (T := TX0) (N := 15) hx hb hts ki0 hown hK hP 0 rfl rfl 8 (by decide) kf29 (fun _ h9 => h9) rfl dX0_addRule_10 ?_
    refine lv_aload_n hx hb dX0_addRule_13 rfl (lv_at hl 0 rfl) ?_
    refine va_get (D := (dC, dI)) (ci := 0) (v := .int (iB 9)) (C := RX0) (T := TX0) (N := 15) hx hb hts ki0 hown hK hP 0 rfl rfl 9 (by decide) kf54 (fun _ h9 => h9) rfl dX0_addRule_14 ?_
    refine lv_aload_n hx hb dX0_addRule_17 rfl (lv_at hl 0 rfl) ?_
    refine lv_iload_n hx hb dX0_addRule_18 rfl (lv_at hl 1 rfl) ?_
    refine lv_iload_n hx hb dX0_addRule_19 rfl (lv_at hl 2 rfl) ?_
    refine lv_iload_n hx hb dX0_addRule_20 rfl (lv_at hl 3 rfl) ?_
    obtain ⟨q21, e21, h⟩ := g_b h
    refine callVis (cc := cX0_addRule) (w1 := zzB ad cy (us iB [(7, q21.2.1)]) lB (us aB [(6, q21.2.2)]) iC aC) (As := [.int a1, .int a2, .int a3]) (rest := [.int (iB 9), .ref (ad 4)]) ⟨hx, hb, hml, hown, hts⟩ (c_B_addStatement l dC dI cy ad H.size a1 a2 a3 iB lB aB iC aC q21 e21) (cwV 3 hts (goodV m_ml_X0_70 m_im_X0_addStatement m_se_X0_addStatement m_in_X0 m_cd_X0_addStatement) rfl rfl rfl (by decide +kernel) ⟨Nat.le_of_ble_eq_true rfl, Nat.le_of_ble_eq_true rfl⟩) hN hK hP hD hS hA rfl 0 rfl rfl rfl hl.1 rfl (Nat.le_of_ble_eq_true rfl) dX0_addRule_21 ⟨Nat.zero_le _, Nat.zero_le _⟩ (fun H locs hP hD hS => ?_)
    obtain ⟨g_15, h⟩ := g_n h
    refine va_iast (f := (aB 8)) hx hb hK hP hD hS 4 0 rfl rfl g_15 dX0_addRule_24 (fun H locs hP hD hS => ?_)
    have hP : va_P (dC, dI) vwCl (zzB ad cy (us iB [(7, q21.2.1)]) lB (us aB [(6, q21.2.2), (8, (upd (aB 8) (iB 9).toNatClampNeg q21.1))]) iC aC) H := Eq.mp (congrArg (fun w => va_P (dC, dI) vwCl w H) (stB_aB8 ad cy (us iB [(7, q21.2.1)]) lB aB iC aC [(6, q21.2.2)] ((upd (aB 8) (iB 9).toNatClampNeg q21.1)))) hP
    have hD : va_D A (zzB ad cy (us iB [(7, q21.2.1)]) lB (us aB [(6, q21.2.2), (8, (upd (aB 8) (iB 9).toNatClampNeg q21.1))]) iC aC) := Eq.mp (congrArg (fun w => va_D A w) (stB_aB8 ad cy (us iB [(7, q21.2.1)]) lB aB iC aC [(6, q21.2.2)] ((upd (aB 8) (iB 9).toNatClampNeg q21.1)))) hD
    refine lv_aload_n hx hb dX0_addRule_25 rfl (lv_at hl 0 rfl) ?_
    refine lv_dup hx hb dX0_addRule_26 rfl ?_
    refine va_get (D := (dC, dI)) (ci := 0) (v := .int (iB 9)) (C := RX0) (T := TX0) (N := 15) hx hb hts ki0 hown hK hP 0 rfl rfl 9 (by decide) kf54 (fun _ h9 => h9) rfl dX0_addRule_27 ?_
    refine lv_iconst (v := 1) hx hb dX0_addRule_30 (by decide) ?_
    refine lv_iadd hx hb dX0_addRule_31 ?_
    refine va_put (D := (dC, dI)) (ci := 0) (v := .int (((iB 9) + (1 : Int32)))) (ty := .int) (C := RX0) (T := TX0) (N := 15) hx hb hts ki0 tyX0 tyX0_ok nmX0 hown hK hP hD hS 0 rfl rfl 9 (by decide) kf54 (fun _ h9 => h9) rfl (by decide +kernel) rfl rfl (Nat.le_of_ble_eq_true rfl) dX0_addRule_32 (fun H locs hP hD hS => ?_)
    have hP : va_P (dC, dI) vwCl (zzB ad cy (us iB [(7, q21.2.1), (9, ((iB 9) + (1 : Int32)))]) lB (us aB [(6, q21.2.2), (8, (upd (aB 8) (iB 9).toNatClampNeg q21.1))]) iC aC) H := Eq.mp (congrArg (fun w => va_P (dC, dI) vwCl w H) (stB_iB9 ad cy iB lB (us aB [(6, q21.2.2), (8, (upd (aB 8) (iB 9).toNatClampNeg q21.1))]) iC aC [(7, q21.2.1)] (((iB 9) + (1 : Int32))))) hP
    have hD : va_D A (zzB ad cy (us iB [(7, q21.2.1), (9, ((iB 9) + (1 : Int32)))]) lB (us aB [(6, q21.2.2), (8, (upd (aB 8) (iB 9).toNatClampNeg q21.1))]) iC aC) := Eq.mp (congrArg (fun w => va_D A w) (stB_iB9 ad cy iB lB (us aB [(6, q21.2.2), (8, (upd (aB 8) (iB 9).toNatClampNeg q21.1))]) iC aC [(7, q21.2.1)] (((iB 9) + (1 : Int32))))) hD
    have h' := Option.some.inj h
    rw [← hQQ]
    exact W.vret hx hb hr (fun t ht hW => ⟨⟨(), rfl, trivial, by rw [← hWQ, ← h', ht]; exact hP, va_K.moved hW.alike hK⟩, hS.F ht⟩) hS.2.2 dX0_addRule_35
