def f_M_readSingle_37 (N : Nat) (iM : Nat → Int32) (aM : Nat → Nat → Int32) (v1 : Int32) (x_iM : Nat → Int32) (x_aM : Nat → Nat → Int32) : Option ((Nat → Int32) × (Nat → Nat → Int32)) := (f_M_fine ((x_iM 46))).bind fun q38 => (if q38 = 0 then (some (x_iM, x_aM)) else ((f_M_next N ((x_iM 1)) ((x_iM 2)) ((x_iM 3)) ((x_iM 4)) ((x_iM 5)) ((x_iM 6)) ((x_aM 0))).bind fun q45 => (if ((3 : Int32) + v1) < 0 ∨ 6 ≤ (((3 : Int32) + v1)).toNatClampNeg then none else ((f_M_say ((4 : Int32)) v1 ((-1 : Int32)) ((x_iM 40)) ((x_aM 15)) ((x_aM 16)) ((x_aM 17))).bind fun q61 => (some ((us x_iM [(2, q45.1), (3, q45.2.1), (4, q45.2.2.1), (5, q45.2.2.2.1), (6, q45.2.2.2.2), (40, q61.1)]), (us x_aM [(15, q61.2.1), (16, q61.2.2.1), (17, q61.2.2.2), (29, (upd ((x_aM 29)) (((3 : Int32) + v1)).toNatClampNeg (vp_nar .boolean ((1 : Int32)))))])))))))
def f_M_readSingle (N : Nat) (iM : Nat → Int32) (aM : Nat → Nat → Int32) : Option ((Nat → Int32) × (Nat → Nat → Int32)) := (f_M_next N ((iM 1)) ((iM 2)) ((iM 3)) ((iM 4)) ((iM 5)) ((iM 6)) ((aM 0))).bind fun q1 => ((f_M_readRole N q1.2.1 q1.2.2.1 q1.2.2.2.1 ((iM 43)) ((iM 44)) ((iM 46)) ((iM 47)) ((aM 0)) ((aM 7)) ((aM 23)) ((aM 24)) ((aM 26)) ((aM 27)) ((aM 29)) ((aM 31))).bind fun q5 => ((f_M_fine q5.2.2.1).bind fun q10 => (if q10 = 0 then (f_M_readSingle_37 N iM aM q5.1 ((us iM [(2, q1.1), (3, q1.2.1), (4, q1.2.2.1), (5, q1.2.2.2.1), (6, q1.2.2.2.2), (44, q5.2.1), (46, q5.2.2.1), (47, q5.2.2.2.1)])) ((us aM [(26, q5.2.2.2.2.1), (27, q5.2.2.2.2.2.1), (29, q5.2.2.2.2.2.2.1), (31, q5.2.2.2.2.2.2.2)]))) else (if ((3 : Int32) + q5.1) < 0 ∨ 6 ≤ (((3 : Int32) + q5.1)).toNatClampNeg then none else (if (q5.2.2.2.2.2.2.2 (((3 : Int32) + q5.1)).toNatClampNeg) = 0 then (f_M_readSingle_37 N iM aM q5.1 ((us iM [(2, q1.1), (3, q1.2.1), (4, q1.2.2.1), (5, q1.2.2.2.1), (6, q1.2.2.2.2), (44, q5.2.1), (46, q5.2.2.1), (47, q5.2.2.2.1)])) ((us aM [(26, q5.2.2.2.2.1), (27, q5.2.2.2.2.2.1), (29, q5.2.2.2.2.2.2.1), (31, q5.2.2.2.2.2.2.2)]))) else ((f_M_wrong ((6 : Int32)) q1.2.2.1 q5.2.2.1 q5.2.2.2.1).bind fun q34 => (f_M_readSingle_37 N iM aM q5.1 ((us iM [(2, q1.1), (3, q1.2.1), (4, q1.2.2.1), (5, q1.2.2.2.1), (6, q1.2.2.2.2), (44, q5.2.1), (46, q34.1), (47, q34.2)])) ((us aM [(26, q5.2.2.2.2.1), (27, q5.2.2.2.2.2.1), (29, q5.2.2.2.2.2.2.1), (31, q5.2.2.2.2.2.2.2)])))))))))
set_option maxHeartbeats 8000000 in
set_option maxRecDepth 100000 in
theorem c_M_readSingle (l : Launch) (dC : Nat → ClassId) (dI : Nat → Nat → Nat) (cy : Nat → ClassId) (ad : Nat → Nat) (sz : Nat) (N : Nat) (iM : Nat → Int32) (aM : Nat → Nat → Int32) (q : (Nat → Int32) × (Nat → Nat → Int32)) (h : f_M_readSingle N iM aM = some q) : Met l yX8_readSingle wsX8_readSingle ({ frames := 3, cells := 0, slots := 0, locals := 68 } : Room) (cP (dC, dI) cy [.ref (ad 0)] (zzM ad cy iM aM) sz) (cQv (dC, dI) cy (zzM ad cy q.1 q.2) (va_A (zzM ad cy iM aM) sz)) 0 0 (va_A (zzM ad cy iM aM) sz) := by
  refine Met.ofW (cc := cX8_readSingle) (maxL := 2) (ret := none) (by decide) rfl ?_
  intro p e s m args below meth c s₁ B hml hv
  obtain ⟨hav, hsz, hP, hK, hD0, hN⟩ := hv
  have hx := B.exec
  have hb := B.bytes
  have hr := B.returns
  have hts := atoms_spec (ws := wsX8_readSingle) B.pre
  have hown : s.vm.findClass RX8 = some m.cls := findClass_of_methodNamed B.named
  have hlocks := B.notSynchronized
  subst hsz
  have hD := hD0.self (sz := s.heap.size)
  generalize hAe : va_A (zzM ad cy iM aM) s.heap.size = A at hD ⊢
  have hA : ∀ q : Nat, s.heap.size ≤ q → A q := fun q h => by rw [← hAe]; exact Or.inr h
  have hS : va_S A s.heap s.heap [] := va_S.rf
  generalize hWQ : (zzM ad cy q.1 q.2) = WQ
  generalize hQQ : MQ below (cQv (dC, dI) cy WQ A) args s 0 0 A = QQ
  have hl := lv_entry ([.ref (ad 0)] : List Value) (n := 2) (Nat.le_of_ble_eq_true rfl)
  have hfr := lg_entry_eq m ([.ref (ad 0)] : List Value) 2
  rw [← hav] at hfr
  rw [hfr]
  clear hfr hav
  generalize (lg_sl ([.ref (ad 0)] : List Value) ++ List.replicate (2 - (lg_sl ([.ref (ad 0)] : List Value)).length) Slot.unset).toArray = ls at hl ⊢
  have hl : lv_has ls 2 [(0, .ref (ad 0))] := hl
  have kf63 := hts _ (List.mem_cons_of_mem _ m_fl_X8_63)
  have ki8 := (fun w h => List.mem_cons_of_mem _ (i_X8 w h) : ∀ w ∈ u_ws RX8 TX8 78, w ∈ wsX8_readSingle)
  have kf70 := hts _ (List.mem_cons_of_mem _ m_fl_X8_70)
  have kf169 := hts _ (List.mem_cons_of_mem _ m_fl_X8_169)
  refine (?_ : ∀ (H : Heap) (locs : List Loc), va_P (dC, dI) vwCl (zzM ad cy iM aM) H → va_D A (zzM ad cy iM aM) → va_S A s.heap H locs → W p l e ({ frames := 3, cells := 0, slots := 0, locals := 68 } : Room) s m args below meth c H locs 0 0 QQ (F0 m 0 ls [])) s.heap [] hP hD hS
  clear hP hD hS
  have B37 : ∀ (v1 : Int32) (x_iM : Nat → Int32) (x_aM : Nat → Nat → Int32) (H : Heap) (locs : List Loc) (ls : Array Slot), f_M_readSingle_37 N iM aM v1 x_iM x_aM = some q → va_P (dC, dI) vwCl (zzM ad cy x_iM x_aM) H → va_D A (zzM ad cy x_iM x_aM) → va_S A s.heap H locs → lv_has ls 2 [(0, .ref (ad 0)), (1, .int v1)] → W p l e ({ frames := 3, cells := 0, slots := 0, locals := 68 } : Room) s m args below meth c H locs 0 0 QQ (F0 m 37 ls []) := by
    intro v1 x_iM x_aM H locs ls h hP hD hS hl
    unfold f_M_readSingle_37 at h
    refine lv_aload_n hx hb dX8_readSingle_37 rfl (lv_at hl 0 rfl) ?_
    obtain ⟨q38, e38, h⟩ := g_b h
    refine callVis (cc := cX8_readSingle) (w1 := zzM ad cy x_iM x_aM) (As := []) (rest := []) ⟨hx, hb, hml, hown, hts⟩ (c_M_fine l dC dI cy ad H.size x_iM x_aM q38 e38) (cwV 0 hts (goodV m_ml_X8_198 m_im_X8_fine m_se_X8_fine m_in_X8 m_cd_X8_fine) rfl rfl rfl (by decide +kernel) ⟨Nat.le_of_ble_eq_true rfl, Nat.le_of_ble_eq_true rfl⟩) hN hK hP hD hS hA rfl 0 rfl rfl rfl hl.1 rfl (Nat.le_of_ble_eq_true rfl) dX8_readSingle_38 ⟨Nat.zero_le _, Nat.zero_le _⟩ (fun H locs hP hD hS => ?_)
    refine lv_if_eq (tgt := 64) hx hb dX8_readSingle_41 (by decide) (fun cz => ?_) (fun cz => ?_)
    · have h := g_t h cz
      have h' := Option.some.inj h
      rw [← hQQ]
      exact W.vret hx hb hr (fun t ht hW => ⟨⟨(), rfl, trivial, by rw [← hWQ, ← h', ht]; exact hP, va_K.moved hW.alike hK⟩, hS.F ht⟩) hS.2.2 dX8_readSingle_64
    · have h := g_f h cz
      refine lv_aload_n hx hb dX8_readSingle_44 rfl (lv_at hl 0 rfl) ?_
      obtain ⟨q45, e45, h⟩ := g_b h
      refine callVvs (cc := cX8_readSingle) (w1 := zzM ad cy (us x_iM [(2, q45.1), (3, q45.2.1), (4, q45.2.2.1), (5, q45.2.2.2.1), (6, q45.2.2.2.2)]) x_aM) (As := []) (rest := []) ⟨hx, hb, hml, hown, hts⟩ (c_M_next l dC dI cy ad H.size N x_iM x_aM q45 e45) (cwV 0 hts (goodV m_ml_X8_205 m_im_X8_next m_se_X8_next m_in_X8 m_cd_X8_next) rfl rfl rfl (by decide +kernel) ⟨Nat.le_of_ble_eq_true rfl, Nat.le_of_ble_eq_true rfl⟩) hN hK hP hD hS hA rfl 0 rfl rfl rfl hl.1 rfl (Nat.le_of_ble_eq_true rfl) dX8_readSingle_45 ⟨Nat.zero_le _, Nat.zero_le _⟩ (fun H locs hP hD hS => ?_)
      refine lv_aload_n hx hb dX8_readSingle_48 rfl (lv_at hl 0 rfl) ?_
      refine va_get (D := (dC, dI)) (ci := 8) (v := .ref (ad 18)) (C := RX8) (T := TX8) (N := 78) hx hb hts ki8 hown hK hP 0 rfl rfl 29 (by decide) kf63 (fun _ h9 => h9) rfl dX8_readSingle_49 ?_
      refine lv_iconst (v := 3) hx hb dX8_readSingle_52 (by decide) ?_
      refine lv_iload_n hx hb dX8_readSingle_53 rfl (lv_at hl 1 rfl) ?_
      refine lv_iadd hx hb dX8_readSingle_54 ?_
      refine lv_iconst (v := 1) hx hb dX8_readSingle_55 (by decide) ?_
      obtain ⟨g_57, h⟩ := g_n h
      refine va_zast (f := (x_aM 29)) hx hb hK hP hD hS 18 4 rfl rfl g_57 dX8_readSingle_56 (fun H locs hP hD hS => ?_)
      have hP : va_P (dC, dI) vwCl (zzM ad cy (us x_iM [(2, q45.1), (3, q45.2.1), (4, q45.2.2.1), (5, q45.2.2.2.1), (6, q45.2.2.2.2)]) (us x_aM [(29, (upd ((x_aM 29)) (((3 : Int32) + v1)).toNatClampNeg (vp_nar .boolean ((1 : Int32)))))])) H := Eq.mp (congrArg (fun w => va_P (dC, dI) vwCl w H) (sfM_aM29 ad cy (us x_iM [(2, q45.1), (3, q45.2.1), (4, q45.2.2.1), (5, q45.2.2.2.1), (6, q45.2.2.2.2)]) x_aM ((upd ((x_aM 29)) (((3 : Int32) + v1)).toNatClampNeg (vp_nar .boolean ((1 : Int32))))))) hP
      have hD : va_D A (zzM ad cy (us x_iM [(2, q45.1), (3, q45.2.1), (4, q45.2.2.1), (5, q45.2.2.2.1), (6, q45.2.2.2.2)]) (us x_aM [(29, (upd ((x_aM 29)) (((3 : Int32) + v1)).toNatClampNeg (vp_nar .boolean ((1 : Int32)))))])) := Eq.mp (congrArg (fun w => va_D A w) (sfM_aM29 ad cy (us x_iM [(2, q45.1), (3, q45.2.1), (4, q45.2.2.1), (5, q45.2.2.2.1), (6, q45.2.2.2.2)]) x_aM ((upd ((x_aM 29)) (((3 : Int32) + v1)).toNatClampNeg (vp_nar .boolean ((1 : Int32))))))) hD
      refine lv_aload_n hx hb dX8_readSingle_57 rfl (lv_at hl 0 rfl) ?_
      refine lv_iconst (v := 4) hx hb dX8_readSingle_58 (by decide) ?_
      refine lv_iload_n hx hb dX8_readSingle_59 rfl (lv_at hl 1 rfl) ?_
      refine lv_iconst (v := (-1)) hx hb dX8_readSingle_60 (by decide) ?_
      obtain ⟨q61, e61, h⟩ := g_b h
      refine callVvs (cc := cX8_readSingle) (w1 := zzM ad cy (us x_iM [(2, q45.1), (3, q45.2.1), (4, q45.2.2.1), (5, q45.2.2.2.1), (6, q45.2.2.2.2), (40, q61.1)]) (us x_aM [(15, q61.2.1), (16, q61.2.2.1), (17, q61.2.2.2), (29, (upd ((x_aM 29)) (((3 : Int32) + v1)).toNatClampNeg (vp_nar .boolean ((1 : Int32)))))])) (As := [.int ((4 : Int32)), .int v1, .int ((-1 : Int32))]) (rest := []) ⟨hx, hb, hml, hown, hts⟩ (c_M_say l dC dI cy ad H.size ((4 : Int32)) v1 ((-1 : Int32)) ((us x_iM [(2, q45.1), (3, q45.2.1), (4, q45.2.2.1), (5, q45.2.2.2.1), (6, q45.2.2.2.2)])) ((us x_aM [(29, (upd ((x_aM 29)) (((3 : Int32) + v1)).toNatClampNeg (vp_nar .boolean ((1 : Int32)))))])) q61 e61) (cwV 3 hts (goodV m_ml_X8_301 m_im_X8_say m_se_X8_say m_in_X8 m_cd_X8_say) rfl rfl rfl (by decide +kernel) ⟨Nat.le_of_ble_eq_true rfl, Nat.le_of_ble_eq_true rfl⟩) hN hK hP hD hS hA rfl 0 rfl rfl rfl hl.1 rfl (Nat.le_of_ble_eq_true rfl) dX8_readSingle_61 ⟨Nat.zero_le _, Nat.zero_le _⟩ (fun H locs hP hD hS => ?_)
      have h' := Option.some.inj h
      rw [← hQQ]
      exact W.vret hx hb hr (fun t ht hW => ⟨⟨(), rfl, trivial, by rw [← hWQ, ← h', ht]; exact hP, va_K.moved hW.alike hK⟩, hS.F ht⟩) hS.2.2 dX8_readSingle_64
  intro H locs hP hD hS
  unfold f_M_readSingle at h
  refine lv_aload_n hx hb dX8_readSingle_0 rfl (lv_at hl 0 rfl) ?_
  obtain ⟨q1, e1, h⟩ := g_b h
  refine callVvs (cc := cX8_readSingle) (w1 := zzM ad cy (us iM [(2, q1.1), (3, q1.2.1), (4, q1.2.2.1), (5, q1.2.2.2.1), (6, q1.2.2.2.2)]) aM) (As := []) (rest := []) ⟨hx, hb, hml, hown, hts⟩ (c_M_next l dC dI cy ad H.size N iM aM q1 e1) (cwV 0 hts (goodV m_ml_X8_205 m_im_X8_next m_se_X8_next m_in_X8 m_cd_X8_next) rfl rfl rfl (by decide +kernel) ⟨Nat.le_of_ble_eq_true rfl, Nat.le_of_ble_eq_true rfl⟩) hN hK hP hD hS hA rfl 0 rfl rfl rfl hl.1 rfl (Nat.le_of_ble_eq_true rfl) dX8_readSingle_1 ⟨Nat.zero_le _, Nat.zero_le _⟩ (fun H locs hP hD hS => ?_)
  refine lv_aload_n hx hb dX8_readSingle_4 rfl (lv_at hl 0 rfl) ?_
  obtain ⟨q5, e5, h⟩ := g_b h
  refine callVis (cc := cX8_readSingle) (w1 := zzM ad cy (us iM [(2, q1.1), (3, q1.2.1), (4, q1.2.2.1), (5, q1.2.2.2.1), (6, q1.2.2.2.2), (44, q5.2.1), (46, q5.2.2.1), (47, q5.2.2.2.1)]) (us aM [(26, q5.2.2.2.2.1), (27, q5.2.2.2.2.2.1), (29, q5.2.2.2.2.2.2.1), (31, q5.2.2.2.2.2.2.2)])) (As := []) (rest := []) ⟨hx, hb, hml, hown, hts⟩ (c_M_readRole l dC dI cy ad H.size N ((us iM [(2, q1.1), (3, q1.2.1), (4, q1.2.2.1), (5, q1.2.2.2.1), (6, q1.2.2.2.2)])) aM q5 e5) (cwV 0 hts (goodV m_ml_X8_277 m_im_X8_readRole m_se_X8_readRole m_in_X8 m_cd_X8_readRole) rfl rfl rfl (by decide +kernel) ⟨Nat.le_of_ble_eq_true rfl, Nat.le_of_ble_eq_true rfl⟩) hN hK hP hD hS hA rfl 0 rfl rfl rfl hl.1 rfl (Nat.le_of_ble_eq_true rfl) dX8_readSingle_5 ⟨Nat.zero_le _, Nat.zero_le _⟩ (fun H locs hP hD hS => ?_)
  refine lv_istore_n (lv' := [(1, .int q5.1), (0, .ref (ad 0))]) hx hb dX8_readSingle_8 rfl hl (by decide) rfl (fun ls hl => ?_)
  refine lv_aload_n hx hb dX8_readSingle_9 rfl (lv_at hl 1 rfl) ?_
  obtain ⟨q10, e10, h⟩ := g_b h
  refine callVis (cc := cX8_readSingle) (w1 := zzM ad cy (us iM [(2, q1.1), (3, q1.2.1), (4, q1.2.2.1), (5, q1.2.2.2.1), (6, q1.2.2.2.2), (44, q5.2.1), (46, q5.2.2.1), (47, q5.2.2.2.1)]) (us aM [(26, q5.2.2.2.2.1), (27, q5.2.2.2.2.2.1), (29, q5.2.2.2.2.2.2.1), (31, q5.2.2.2.2.2.2.2)])) (As := []) (rest := []) ⟨hx, hb, hml, hown, hts⟩ (c_M_fine l dC dI cy ad H.size ((us iM [(2, q1.1), (3, q1.2.1), (4, q1.2.2.1), (5, q1.2.2.2.1), (6, q1.2.2.2.2), (44, q5.2.1), (46, q5.2.2.1), (47, q5.2.2.2.1)])) ((us aM [(26, q5.2.2.2.2.1), (27, q5.2.2.2.2.2.1), (29, q5.2.2.2.2.2.2.1), (31, q5.2.2.2.2.2.2.2)])) q10 e10) (cwV 0 hts (goodV m_ml_X8_198 m_im_X8_fine m_se_X8_fine m_in_X8 m_cd_X8_fine) rfl rfl rfl (by decide +kernel) ⟨Nat.le_of_ble_eq_true rfl, Nat.le_of_ble_eq_true rfl⟩) hN hK hP hD hS hA rfl 0 rfl rfl rfl hl.1 rfl (Nat.le_of_ble_eq_true rfl) dX8_readSingle_10 ⟨Nat.zero_le _, Nat.zero_le _⟩ (fun H locs hP hD hS => ?_)
  refine lv_if_eq (tgt := 37) hx hb dX8_readSingle_13 (by decide) (fun cz => ?_) (fun cz => ?_)
  · have h := g_t h cz
    exact B37 q5.1 ((us iM [(2, q1.1), (3, q1.2.1), (4, q1.2.2.1), (5, q1.2.2.2.1), (6, q1.2.2.2.2), (44, q5.2.1), (46, q5.2.2.1), (47, q5.2.2.2.1)])) ((us aM [(26, q5.2.2.2.2.1), (27, q5.2.2.2.2.2.1), (29, q5.2.2.2.2.2.2.1), (31, q5.2.2.2.2.2.2.2)])) H locs ls h hP hD hS (lv_sub hl [1, 0] rfl)
  · have h := g_f h cz
    refine lv_aload_n hx hb dX8_readSingle_16 rfl (lv_at hl 1 rfl) ?_
    refine va_get (D := (dC, dI)) (ci := 8) (v := .ref (ad 20)) (C := RX8) (T := TX8) (N := 78) hx hb hts ki8 hown hK hP 0 rfl rfl 31 (by decide) kf70 (fun _ h9 => h9) rfl dX8_readSingle_17 ?_
    refine lv_iconst (v := 3) hx hb dX8_readSingle_20 (by decide) ?_
    refine lv_iload_n hx hb dX8_readSingle_21 rfl (lv_at hl 0 rfl) ?_
    refine lv_iadd hx hb dX8_readSingle_22 ?_
    obtain ⟨g_92, h⟩ := g_n h
    refine va_zald (f := q5.2.2.2.2.2.2.2) hx hb hK hP 20 4 rfl rfl g_92 dX8_readSingle_23 ?_
    refine lv_if_eq (tgt := 37) hx hb dX8_readSingle_24 (by decide) (fun cz => ?_) (fun cz => ?_)
    · have h := g_t h cz
      exact B37 q5.1 ((us iM [(2, q1.1), (3, q1.2.1), (4, q1.2.2.1), (5, q1.2.2.2.1), (6, q1.2.2.2.2), (44, q5.2.1), (46, q5.2.2.1), (47, q5.2.2.2.1)])) ((us aM [(26, q5.2.2.2.2.1), (27, q5.2.2.2.2.2.1), (29, q5.2.2.2.2.2.2.1), (31, q5.2.2.2.2.2.2.2)])) H locs ls h hP hD hS (lv_sub hl [1, 0] rfl)
    · have h := g_f h cz
      refine lv_aload_n hx hb dX8_readSingle_27 rfl (lv_at hl 1 rfl) ?_
      refine lv_bipush (v := 6) hx hb dX8_readSingle_28 (by decide) ?_
      refine lv_aload_n hx hb dX8_readSingle_30 rfl (lv_at hl 1 rfl) ?_
      refine va_get (D := (dC, dI)) (ci := 8) (v := .int q1.2.2.1) (C := RX8) (T := TX8) (N := 78) hx hb hts ki8 hown hK hP 0 rfl rfl 4 (by decide) kf169 (fun _ h9 => h9) rfl dX8_readSingle_31 ?_
      obtain ⟨q34, e34, h⟩ := g_b h
      refine callVvs (cc := cX8_readSingle) (w1 := zzM ad cy (us iM [(2, q1.1), (3, q1.2.1), (4, q1.2.2.1), (5, q1.2.2.2.1), (6, q1.2.2.2.2), (44, q5.2.1), (46, q34.1), (47, q34.2)]) (us aM [(26, q5.2.2.2.2.1), (27, q5.2.2.2.2.2.1), (29, q5.2.2.2.2.2.2.1), (31, q5.2.2.2.2.2.2.2)])) (As := [.int ((6 : Int32)), .int q1.2.2.1]) (rest := []) ⟨hx, hb, hml, hown, hts⟩ (c_M_wrong l dC dI cy ad H.size ((6 : Int32)) q1.2.2.1 ((us iM [(2, q1.1), (3, q1.2.1), (4, q1.2.2.1), (5, q1.2.2.2.1), (6, q1.2.2.2.2), (44, q5.2.1), (46, q5.2.2.1), (47, q5.2.2.2.1)])) ((us aM [(26, q5.2.2.2.2.1), (27, q5.2.2.2.2.2.1), (29, q5.2.2.2.2.2.2.1), (31, q5.2.2.2.2.2.2.2)])) q34 e34) (cwV 2 hts (goodV m_ml_X8_194 m_im_X8_wrong m_se_X8_wrong m_in_X8 m_cd_X8_wrong) rfl rfl rfl (by decide +kernel) ⟨Nat.le_of_ble_eq_true rfl, Nat.le_of_ble_eq_true rfl⟩) hN hK hP hD hS hA rfl 0 rfl rfl rfl hl.1 rfl (Nat.le_of_ble_eq_true rfl) dX8_readSingle_34 ⟨Nat.zero_le _, Nat.zero_le _⟩ (fun H locs hP hD hS => ?_)
      exact B37 q5.1 ((us iM [(2, q1.1), (3, q1.2.1), (4, q1.2.2.1), (5, q1.2.2.2.1), (6, q1.2.2.2.2), (44, q5.2.1), (46, q34.1), (47, q34.2)])) ((us aM [(26, q5.2.2.2.2.1), (27, q5.2.2.2.2.2.1), (29, q5.2.2.2.2.2.2.1), (31, q5.2.2.2.2.2.2.2)])) H locs ls h hP hD hS (lv_sub hl [1, 0] rfl)
