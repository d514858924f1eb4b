def f_B_isRoleUnder (a1 : Int32) (a2 : Int32) (aB12 : Nat → Int32) : Option Int32 := (f_B_rolesAbove a1 aB12).bind fun q2 => (if ((q2 >>> (a2 &&& 31)) &&& (1 : Int32)) = (1 : Int32) then (some (1 : Int32)) else (some (0 : Int32)))
set_option maxHeartbeats 8000000 in
set_option maxRecDepth 100000 in
theorem c_B_isRoleUnder (l : Launch) (dC : Nat → ClassId) (dI : Nat → Nat → Nat) (cy : Nat → ClassId) (ad : Nat → Nat) (sz : Nat) (a1 : Int32) (a2 : Int32) (iB : Nat → Int32) (lB : Nat → Nat → Int64) (aB : Nat → Nat → Int32) (iC : Nat → Int32) (aC : Nat → Nat → Int32) (q : Int32) (h : f_B_isRoleUnder a1 a2 (aB 12) = some q) : Met l yX0_isRoleUnder wsX0_isRoleUnder ({ frames := 1, cells := 0, slots := 0, locals := 21 } : Room) (cP (dC, dI) cy [.ref (ad 0), .int a1, .int a2] (zzB ad cy iB lB aB iC aC) sz) (cQi (dC, dI) cy q (zzB ad cy iB lB aB iC aC) (va_A (zzB ad cy iB lB aB iC aC) sz)) 0 0 (va_A (zzB ad cy iB lB aB iC aC) sz) := by
  refine Met.ofW (cc := cX0_isRoleUnder) (maxL := 3) (ret := (some .boolean)) (by decide) rfl ?_
  intro p e s m args below meth c s₁ B hml hv
  obtain ⟨hav, hsz, hP, hK, hD0, hN⟩ := hv
  have hx := B.exec
  have hb := B.bytes
  have hr := B.returns
  have hts := atoms_spec (ws := wsX0_isRoleUnder) B.pre
  have hown : s.vm.findClass RX0 = some m.cls := findClass_of_methodNamed B.named
  have hlocks := B.notSynchronized
  subst hsz
  have hD := hD0.self (sz := s.heap.size)
  generalize hAe : va_A (zzB ad cy iB lB aB iC aC) s.heap.size = A at hD ⊢
  have hA : ∀ q : Nat, s.heap.size ≤ q → A q := fun q h => by rw [← hAe]; exact Or.inr h
  have hS : va_S A s.heap s.heap [] := va_S.rf
  generalize hWQ : (zzB ad cy iB lB aB iC aC) = WQ
  generalize hQQ : MQ below (cQi (dC, dI) cy q WQ A) args s 0 0 A = QQ
  have hl := lv_entry ([.ref (ad 0), .int a1, .int a2] : List Value) (n := 3) (Nat.le_of_ble_eq_true rfl)
  have hfr := lg_entry_eq m ([.ref (ad 0), .int a1, .int a2] : List Value) 3
  rw [← hav] at hfr
  rw [hfr]
  clear hfr hav
  generalize (lg_sl ([.ref (ad 0), .int a1, .int a2] : List Value) ++ List.replicate (3 - (lg_sl ([.ref (ad 0), .int a1, .int a2] : List Value)).length) Slot.unset).toArray = ls at hl ⊢
  have hl : lv_has ls 3 [(0, .ref (ad 0)), (1, .int a1), (2, .int a2)] := hl
  refine (?_ : ∀ (H : Heap) (locs : List Loc), va_P (dC, dI) vwCl (zzB ad cy iB lB aB iC aC) H → va_D A (zzB ad cy iB lB aB iC aC) → va_S A s.heap H locs → W p l e ({ frames := 1, cells := 0, slots := 0, locals := 21 } : Room) s m args below meth c H locs 0 0 QQ (F0 m 0 ls [])) s.heap [] hP hD hS
  clear hP hD hS
  intro H locs hP hD hS
  unfold f_B_isRoleUnder at h
  refine lv_aload_n hx hb dX0_isRoleUnder_0 rfl (lv_at hl 0 rfl) ?_
  refine lv_iload_n hx hb dX0_isRoleUnder_1 rfl (lv_at hl 1 rfl) ?_
  obtain ⟨q2, e2, h⟩ := g_b h
  refine callVis (cc := cX0_isRoleUnder) (w1 := zzB ad cy iB lB aB iC aC) (As := [.int a1]) (rest := []) ⟨hx, hb, hml, hown, hts⟩ (c_B_rolesAbove l dC dI cy ad H.size a1 iB lB aB iC aC q2 e2) (cwV 1 hts (goodV m_ml_X0_74 m_im_X0_rolesAbove m_se_X0_rolesAbove m_in_X0 m_cd_X0_rolesAbove) rfl rfl rfl (by decide +kernel) ⟨Nat.le_of_ble_eq_true rfl, Nat.le_of_ble_eq_true rfl⟩) hN hK hP hD hS hA rfl 0 rfl rfl rfl hl.1 rfl (Nat.le_of_ble_eq_true rfl) dX0_isRoleUnder_2 ⟨Nat.zero_le _, Nat.zero_le _⟩ (fun H locs hP hD hS => ?_)
  refine lv_iload_n hx hb dX0_isRoleUnder_5 rfl (lv_at hl 2 rfl) ?_
  refine lv_ishr hx hb dX0_isRoleUnder_6 ?_
  refine lv_iconst (v := 1) hx hb dX0_isRoleUnder_7 (by decide) ?_
  refine lv_iand hx hb dX0_isRoleUnder_8 ?_
  refine lv_iconst (v := 1) hx hb dX0_isRoleUnder_9 (by decide) ?_
  refine lv_icmp_ne (tgt := 17) hx hb dX0_isRoleUnder_10 (by decide) (fun cz => ?_) (fun cz => ?_)
  · have h := g_f h cz
    refine lv_iconst (v := 0) hx hb dX0_isRoleUnder_17 (by decide) ?_
    have h' := Option.some.inj h
    rw [← hQQ]
    exact W.zret (v := (0 : Int32)) hx hb hr rfl (fun t ht hW => ⟨⟨(0 : Int32), (), rfl, by rw [← h'], by rw [← hWQ, ht]; exact hP, va_K.moved hW.alike hK⟩, hS.F ht⟩) hS.2.2 dX0_isRoleUnder_18
  · have h := g_t h cz
    refine lv_iconst (v := 1) hx hb dX0_isRoleUnder_13 (by decide) ?_
    refine lv_goto (tgt := 18) hx hb dX0_isRoleUnder_14 (by decide) ?_
    have h' := Option.some.inj h
    rw [← hQQ]
    exact W.zret (v := (1 : Int32)) hx hb hr rfl (fun t ht hW => ⟨⟨(1 : Int32), (), rfl, by rw [← h'], by rw [← hWQ, ht]; exact hP, va_K.moved hW.alike hK⟩, hS.F ht⟩) hS.2.2 dX0_isRoleUnder_18
