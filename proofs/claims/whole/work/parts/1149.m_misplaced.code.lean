def f_M_misplaced_14 (iM3 : Int32) (iM4 : Int32) (iM46 : Int32) (iM47 : Int32) (s1 : Int32) : Option (Int32 × Int32) := (f_M_wrong s1 iM4 iM46 iM47).bind fun q18 => (some (q18.1, q18.2))
def f_M_misplaced (iM3 : Int32) (iM4 : Int32) (iM46 : Int32) (iM47 : Int32) : Option (Int32 × Int32) := if iM3 = (3 : Int32) then (f_M_misplaced_14 iM3 iM4 iM46 iM47 ((1 : Int32))) else (f_M_misplaced_14 iM3 iM4 iM46 iM47 ((2 : Int32)))
set_option maxHeartbeats 8000000 in
set_option maxRecDepth 100000 in
theorem c_M_misplaced (l : Launch) (dC : Nat → ClassId) (dI : Nat → Nat → Nat) (cy : Nat → ClassId) (ad : Nat → Nat) (sz : Nat) (iM : Nat → Int32) (aM : Nat → Nat → Int32) (q : Int32 × Int32) (h : f_M_misplaced (iM 3) (iM 4) (iM 46) (iM 47) = some q) : Met l yX8_misplaced wsX8_misplaced ({ frames := 1, cells := 0, slots := 0, locals := 22 } : Room) (cP (dC, dI) cy [.ref (ad 0)] (zzM ad cy iM aM) sz) (cQv (dC, dI) cy (zzM ad cy (us iM [(46, q.1), (47, q.2)]) aM) (va_A (zzM ad cy iM aM) sz)) 0 0 (va_A (zzM ad cy iM aM) sz) := by
  refine Met.ofW (cc := cX8_misplaced) (maxL := 1) (ret := none) (by decide) rfl ?_
  intro p e s m args below meth c s₁ B hml hv
  obtain ⟨hav, hsz, hP, hK, hD0, hN⟩ := hv
  have hx := B.exec
  have hb := B.bytes
  have hr := B.returns
  have hts := atoms_spec (ws := wsX8_misplaced) B.pre
  have hown : s.vm.findClass RX8 = some m.cls := findClass_of_methodNamed B.named
  have hlocks := B.notSynchronized
  subst hsz
  have hD := hD0.self (sz := s.heap.size)
  generalize hAe : va_A (zzM ad cy iM aM) s.heap.size = A at hD ⊢
  have hA : ∀ q : Nat, s.heap.size ≤ q → A q := fun q h => by rw [← hAe]; exact Or.inr h
  have hS : va_S A s.heap s.heap [] := va_S.rf
  generalize hWQ : (zzM ad cy (us iM [(46, q.1), (47, q.2)]) aM) = WQ
  generalize hQQ : MQ below (cQv (dC, dI) cy WQ A) args s 0 0 A = QQ
  have hl := lv_entry ([.ref (ad 0)] : List Value) (n := 1) (Nat.le_of_ble_eq_true rfl)
  have hfr := lg_entry_eq m ([.ref (ad 0)] : List Value) 1
  rw [← hav] at hfr
  rw [hfr]
  clear hfr hav
  generalize (lg_sl ([.ref (ad 0)] : List Value) ++ List.replicate (1 - (lg_sl ([.ref (ad 0)] : List Value)).length) Slot.unset).toArray = ls at hl ⊢
  have hl : lv_has ls 1 [(0, .ref (ad 0))] := hl
  have kf169 := hts _ (List.mem_cons_of_mem _ m_fl_X8_169)
  have ki8 := (fun w h => List.mem_cons_of_mem _ (i_X8 w h) : ∀ w ∈ u_ws RX8 TX8 78, w ∈ wsX8_misplaced)
  have kf178 := hts _ (List.mem_cons_of_mem _ m_fl_X8_178)
  refine (?_ : ∀ (H : Heap) (locs : List Loc), va_P (dC, dI) vwCl (zzM ad cy iM aM) H → va_D A (zzM ad cy iM aM) → va_S A s.heap H locs → W p l e ({ frames := 1, cells := 0, slots := 0, locals := 22 } : Room) s m args below meth c H locs 0 0 QQ (F0 m 0 ls [])) s.heap [] hP hD hS
  clear hP hD hS
  have B14 : ∀ (s1 : Int32) (H : Heap) (locs : List Loc) (ls : Array Slot), f_M_misplaced_14 (iM 3) (iM 4) (iM 46) (iM 47) s1 = some q → va_P (dC, dI) vwCl (zzM ad cy iM aM) H → va_D A (zzM ad cy iM aM) → va_S A s.heap H locs → lv_has ls 1 [(0, .ref (ad 0))] → W p l e ({ frames := 1, cells := 0, slots := 0, locals := 22 } : Room) s m args below meth c H locs 0 0 QQ (F0 m 14 ls [.int s1, .ref (ad 0)]) := by
    intro s1 H locs ls h hP hD hS hl
    unfold f_M_misplaced_14 at h
    refine lv_aload_n hx hb dX8_misplaced_14 rfl (lv_at hl 0 rfl) ?_
    refine va_get (D := (dC, dI)) (ci := 8) (v := .int (iM 4)) (C := RX8) (T := TX8) (N := 78) hx hb hts ki8 hown hK hP 0 rfl rfl 4 (by decide) kf169 (fun _ h9 => h9) rfl dX8_misplaced_15 ?_
    obtain ⟨q18, e18, h⟩ := g_b h
    refine callVvs (cc := cX8_misplaced) (w1 := zzM ad cy (us iM [(46, q18.1), (47, q18.2)]) aM) (As := [.int s1, .int (iM 4)]) (rest := []) ⟨hx, hb, hml, hown, hts⟩ (c_M_wrong l dC dI cy ad H.size s1 (iM 4) iM aM q18 e18) (cwV 2 hts (goodV m_ml_X8_194 m_im_X8_wrong m_se_X8_wrong m_in_X8 m_cd_X8_wrong) rfl rfl rfl (by decide +kernel) ⟨Nat.le_of_ble_eq_true rfl, Nat.le_of_ble_eq_true rfl⟩) hN hK hP hD hS hA rfl 0 rfl rfl rfl hl.1 rfl (Nat.le_of_ble_eq_true rfl) dX8_misplaced_18 ⟨Nat.zero_le _, Nat.zero_le _⟩ (fun H locs hP hD hS => ?_)
    have h' := Option.some.inj h
    rw [← hQQ]
    exact W.vret hx hb hr (fun t ht hW => ⟨⟨(), rfl, trivial, by rw [← hWQ, ← h', ht]; exact hP, va_K.moved hW.alike hK⟩, hS.F ht⟩) hS.2.2 dX8_misplaced_21
  intro H locs hP hD hS
  unfold f_M_misplaced at h
  refine lv_aload_n hx hb dX8_misplaced_0 rfl (lv_at hl 0 rfl) ?_
  refine lv_aload_n hx hb dX8_misplaced_1 rfl (lv_at hl 0 rfl) ?_
  refine va_get (D := (dC, dI)) (ci := 8) (v := .int (iM 3)) (C := RX8) (T := TX8) (N := 78) hx hb hts ki8 hown hK hP 0 rfl rfl 3 (by decide) kf178 (fun _ h9 => h9) rfl dX8_misplaced_2 ?_
  refine lv_iconst (v := 3) hx hb dX8_misplaced_5 (by decide) ?_
  refine lv_icmp_ne (tgt := 13) hx hb dX8_misplaced_6 (by decide) (fun cz => ?_) (fun cz => ?_)
  · have h := g_f h cz
    refine lv_iconst (v := 2) hx hb dX8_misplaced_13 (by decide) ?_
    exact B14 ((2 : Int32)) H locs ls h hP hD hS (lv_sub hl [0] rfl)
  · have h := g_t h cz
    refine lv_iconst (v := 1) hx hb dX8_misplaced_9 (by decide) ?_
    refine lv_goto (tgt := 14) hx hb dX8_misplaced_10 (by decide) ?_
    exact B14 ((1 : Int32)) H locs ls h hP hD hS (lv_sub hl [0] rfl)
