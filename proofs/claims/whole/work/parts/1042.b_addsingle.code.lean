def f_B_addSingle (a1 : Int32) (iB7 : Int32) (iB13 : Int32) (aB6 : Nat → Int32) : Option (Int32 × Int32 × (Nat → Int32)) := (f_B_addStatement ((4 : Int32)) a1 ((0 : Int32)) iB7 aB6).bind fun q4 => (some (q4.2.1, (iB13 ||| ((1 : Int32) <<< (a1 &&& 31))), q4.2.2))
set_option maxHeartbeats 8000000 in
set_option maxRecDepth 100000 in
theorem c_B_addSingle (l : Launch) (dC : Nat → ClassId) (dI : Nat → Nat → Nat) (cy : Nat → ClassId) (ad : Nat → Nat) (sz : Nat) (a1 : Int32) (iB : Nat → Int32) (lB : Nat → Nat → Int64) (aB : Nat → Nat → Int32) (iC : Nat → Int32) (aC : Nat → Nat → Int32) (q : Int32 × Int32 × (Nat → Int32)) (h : f_B_addSingle a1 (iB 7) (iB 13) (aB 6) = some q) : Met l yX0_addSingle wsX0_addSingle ({ frames := 1, cells := 0, slots := 0, locals := 24 } : Room) (cP (dC, dI) cy [.ref (ad 0), .int a1] (zzB ad cy iB lB aB iC aC) sz) (cQv (dC, dI) cy (zzB ad cy (us iB [(7, q.1), (13, q.2.1)]) lB (us aB [(6, q.2.2)]) iC aC) (va_A (zzB ad cy iB lB aB iC aC) sz)) 0 0 (va_A (zzB ad cy iB lB aB iC aC) sz) := by
  refine Met.ofW (cc := cX0_addSingle) (maxL := 2) (ret := none) (by decide) rfl ?_
  intro p e s m args below meth c s₁ B hml hv
  obtain ⟨hav, hsz, hP, hK, hD0, hN⟩ := hv
  have hx := B.exec
  have hb := B.bytes
  have hr := B.returns
  have hts := atoms_spec (ws := wsX0_addSingle) B.pre
  have hown : s.vm.findClass RX0 = some m.cls := findClass_of_methodNamed B.named
  have hlocks := B.notSynchronized
  subst hsz
  have hD := hD0.self (sz := s.heap.size)
  generalize hAe : va_A (zzB ad cy iB lB aB iC aC) s.heap.size = A at hD ⊢
  have hA : ∀ q : Nat, s.heap.size ≤ q → A q := fun q h => by rw [← hAe]; exact Or.inr h
  have hS : va_S A s.heap s.heap [] := va_S.rf
  generalize hWQ : (zzB ad cy (us iB [(7, q.1), (13, q.2.1)]) lB (us aB [(6, q.2.2)]) iC aC) = WQ
  generalize hQQ : MQ below (cQv (dC, dI) cy WQ A) args s 0 0 A = QQ
  have hl := lv_entry ([.ref (ad 0), .int a1] : List Value) (n := 2) (Nat.le_of_ble_eq_true rfl)
  have hfr := lg_entry_eq m ([.ref (ad 0), .int a1] : List Value) 2
  rw [← hav] at hfr
  rw [hfr]
  clear hfr hav
  generalize (lg_sl ([.ref (ad 0), .int a1] : List Value) ++ List.replicate (2 - (lg_sl ([.ref (ad 0), .int a1] : List Value)).length) Slot.unset).toArray = ls at hl ⊢
  have hl : lv_has ls 2 [(0, .ref (ad 0)), (1, .int a1)] := hl
  have kf60 := hts _ (List.mem_cons_of_mem _ m_fl_X0_60)
  have ki0 := (fun w h => List.mem_cons_of_mem _ (i_X0 w h) : ∀ w ∈ u_ws RX0 TX0 15, w ∈ wsX0_addSingle)
  refine (?_ : ∀ (H : Heap) (locs : List Loc), va_P (dC, dI) vwCl (zzB ad cy iB lB aB iC aC) H → va_D A (zzB ad cy iB lB aB iC aC) → va_S A s.heap H locs → W p l e ({ frames := 1, cells := 0, slots := 0, locals := 24 } : Room) s m args below meth c H locs 0 0 QQ (F0 m 0 ls [])) s.heap [] hP hD hS
  clear hP hD hS
  intro H locs hP hD hS
  unfold f_B_addSingle at h
  refine lv_aload_n hx hb dX0_addSingle_0 rfl (lv_at hl 0 rfl) ?_
  refine lv_iconst (v := 4) hx hb dX0_addSingle_1 (by decide) ?_
  refine lv_iload_n hx hb dX0_addSingle_2 rfl (lv_at hl 1 rfl) ?_
  refine lv_iconst (v := 0) hx hb dX0_addSingle_3 (by decide) ?_
  obtain ⟨q4, e4, h⟩ := g_b h
  refine callVis (cc := cX0_addSingle) (w1 := zzB ad cy (us iB [(7, q4.2.1)]) lB (us aB [(6, q4.2.2)]) iC aC) (As := [.int ((4 : Int32)), .int a1, .int ((0 : Int32))]) (rest := []) ⟨hx, hb, hml, hown, hts⟩ (c_B_addStatement l dC dI cy ad H.size ((4 : Int32)) a1 ((0 : Int32)) iB lB aB iC aC q4 e4) (cwV 3 hts (goodV m_ml_X0_70 m_im_X0_addStatement m_se_X0_addStatement m_in_X0 m_cd_X0_addStatement) rfl rfl rfl (by decide +kernel) ⟨Nat.le_of_ble_eq_true rfl, Nat.le_of_ble_eq_true rfl⟩) hN hK hP hD hS hA rfl 0 rfl rfl rfl hl.1 rfl (Nat.le_of_ble_eq_true rfl) dX0_addSingle_4 ⟨Nat.zero_le _, Nat.zero_le _⟩ (fun H locs hP hD hS => ?_)
  refine lv_pop hx hb dX0_addSingle_7 rfl ?_
  refine lv_aload_n hx hb dX0_addSingle_8 rfl (lv_at hl 0 rfl) ?_
  refine lv_dup hx hb dX0_addSingle_9 rfl ?_
  refine va_get (D := (dC, dI)) (ci := 0) (v := .int (iB 13)) (C := RX0) (T := TX0) (N := 15) hx hb hts ki0 hown hK hP 0 rfl rfl 13 (by decide) kf60 (fun _ h9 => h9) rfl dX0_addSingle_10 ?_
  refine lv_iconst (v := 1) hx hb dX0_addSingle_13 (by decide) ?_
  refine lv_iload_n hx hb dX0_addSingle_14 rfl (lv_at hl 1 rfl) ?_
  refine lv_ishl hx hb dX0_addSingle_15 ?_
  refine lv_ior hx hb dX0_addSingle_16 ?_
  refine va_put (D := (dC, dI)) (ci := 0) (v := .int (((iB 13) ||| ((1 : Int32) <<< (a1 &&& 31))))) (ty := .int) (C := RX0) (T := TX0) (N := 15) hx hb hts ki0 tyX0 tyX0_ok nmX0 hown hK hP hD hS 0 rfl rfl 13 (by decide) kf60 (fun _ h9 => h9) rfl (by decide +kernel) rfl rfl (Nat.le_of_ble_eq_true rfl) dX0_addSingle_17 (fun H locs hP hD hS => ?_)
  have hP : va_P (dC, dI) vwCl (zzB ad cy (us iB [(7, q4.2.1), (13, ((iB 13) ||| ((1 : Int32) <<< (a1 &&& 31))))]) lB (us aB [(6, q4.2.2)]) iC aC) H := Eq.mp (congrArg (fun w => va_P (dC, dI) vwCl w H) (stB_iB13 ad cy iB lB (us aB [(6, q4.2.2)]) iC aC [(7, q4.2.1)] (((iB 13) ||| ((1 : Int32) <<< (a1 &&& 31)))))) hP
  have hD : va_D A (zzB ad cy (us iB [(7, q4.2.1), (13, ((iB 13) ||| ((1 : Int32) <<< (a1 &&& 31))))]) lB (us aB [(6, q4.2.2)]) iC aC) := Eq.mp (congrArg (fun w => va_D A w) (stB_iB13 ad cy iB lB (us aB [(6, q4.2.2)]) iC aC [(7, q4.2.1)] (((iB 13) ||| ((1 : Int32) <<< (a1 &&& 31)))))) hD
  have h' := Option.some.inj h
  rw [← hQQ]
  exact W.vret hx hb hr (fun t ht hW => ⟨⟨(), rfl, trivial, by rw [← hWQ, ← h', ht]; exact hP, va_K.moved hW.alike hK⟩, hS.F ht⟩) hS.2.2 dX0_addSingle_20
