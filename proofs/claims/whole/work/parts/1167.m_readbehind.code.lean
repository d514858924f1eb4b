def f_M_readBehind_44 (N : Nat) (iM : Nat → Int32) (aM : Nat → Nat → Int32) (s1 : Int32) (x_iM : Nat → Int32) (x_aM : Nat → Nat → Int32) : Option (Int32 × (Nat → Int32) × (Nat → Nat → Int32)) := (f_M_newNode s1 ((x_iM 4)) ((x_iM 38)) ((x_iM 46)) ((x_iM 47)) ((x_aM 8)) ((x_aM 9)) ((x_aM 10)) ((x_aM 11)) ((x_aM 12))).bind fun q44 => ((f_M_fine q44.2.2.1).bind fun q49 => (if q49 = 0 then (some ((1 : Int32), (us x_iM [(38, q44.2.1), (46, q44.2.2.1), (47, q44.2.2.2.1)]), (us x_aM [(8, q44.2.2.2.2.1), (9, q44.2.2.2.2.2.1), (10, q44.2.2.2.2.2.2.1), (11, q44.2.2.2.2.2.2.2.1), (12, q44.2.2.2.2.2.2.2.2)]))) else (if q44.1 < 0 ∨ 400 ≤ q44.1.toNatClampNeg then none else ((f_M_wait ((3 : Int32)) q44.1 ((x_iM 54)) ((x_aM 52)) ((x_aM 53))).bind fun q68 => ((f_M_next N ((x_iM 1)) ((x_iM 2)) ((x_iM 3)) ((x_iM 4)) ((x_iM 5)) ((x_iM 6)) ((x_aM 0))).bind fun q72 => (some ((1 : Int32), (us x_iM [(2, q72.1), (3, q72.2.1), (4, q72.2.2.1), (5, q72.2.2.2.1), (6, q72.2.2.2.2), (38, q44.2.1), (46, q44.2.2.1), (47, q44.2.2.2.1), (54, q68.1), (56, (1 : Int32))]), (us x_aM [(8, q44.2.2.2.2.1), (9, (upd q44.2.2.2.2.2.1 q44.1.toNatClampNeg ((x_iM 55)))), (10, q44.2.2.2.2.2.2.1), (11, q44.2.2.2.2.2.2.2.1), (12, q44.2.2.2.2.2.2.2.2), (52, q68.2.1), (53, q68.2.2)]))))))))
def f_M_readBehind_28 (N : Nat) (iM : Nat → Int32) (aM : Nat → Nat → Int32) (v1 : Int32) (s1 : Int32) : Option (Int32 × (Nat → Int32) × (Nat → Nat → Int32)) := (f_M_close N s1 ((iM 39)) ((iM 54)) ((iM 55)) ((aM 8)) ((aM 10)) ((aM 13)) ((aM 52)) ((aM 53))).bind fun q28 => (if v1 = (4 : Int32) then (f_M_readBehind_44 N iM aM ((6 : Int32)) ((us iM [(39, q28.1), (54, q28.2.1), (55, q28.2.2.1)])) ((us aM [(10, q28.2.2.2.1), (13, q28.2.2.2.2)]))) else (f_M_readBehind_44 N iM aM ((7 : Int32)) ((us iM [(39, q28.1), (54, q28.2.1), (55, q28.2.2.1)])) ((us aM [(10, q28.2.2.2.1), (13, q28.2.2.2.2)]))))
def f_M_readBehind_15 (N : Nat) (iM : Nat → Int32) (aM : Nat → Nat → Int32) (v1 : Int32) : Option (Int32 × (Nat → Int32) × (Nat → Nat → Int32)) := if v1 = (4 : Int32) then (f_M_readBehind_28 N iM aM v1 ((6 : Int32))) else (f_M_readBehind_28 N iM aM v1 ((7 : Int32)))
def f_M_readBehind (N : Nat) (iM : Nat → Int32) (aM : Nat → Nat → Int32) : Option (Int32 × (Nat → Int32) × (Nat → Nat → Int32)) := (f_M_kept N ((iM 3)) ((iM 4)) ((iM 5)) ((aM 0)) ((aM 7))).bind fun q1 => (if q1 = (4 : Int32) then (f_M_readBehind_15 N iM aM q1) else (if q1 = (3 : Int32) then (f_M_readBehind_15 N iM aM q1) else ((f_M_close N ((7 : Int32)) ((iM 39)) ((iM 54)) ((iM 55)) ((aM 8)) ((aM 10)) ((aM 13)) ((aM 52)) ((aM 53))).bind fun q85 => (if (q85.2.1 - (1 : Int32)) < 0 ∨ 500 ≤ ((q85.2.1 - (1 : Int32))).toNatClampNeg then none else (if (((aM 52)) ((q85.2.1 - (1 : Int32))).toNatClampNeg) = 0 then (some ((0 : Int32), (us iM [(39, q85.1), (54, q85.2.1), (55, q85.2.2.1)]), (us aM [(10, q85.2.2.2.1), (13, q85.2.2.2.2)]))) else ((f_M_isSignHere ((41 : Int32)) ((iM 3)) ((iM 6))).bind fun q107 => (if q107 = 0 then ((f_M_misplaced ((iM 3)) ((iM 4)) ((iM 46)) ((iM 47))).bind fun q149 => (some ((1 : Int32), (us iM [(39, q85.1), (46, q149.1), (47, q149.2), (54, q85.2.1), (55, q85.2.2.1)]), (us aM [(10, q85.2.2.2.1), (13, q85.2.2.2.2)])))) else ((f_M_next N ((iM 1)) ((iM 2)) ((iM 3)) ((iM 4)) ((iM 5)) ((iM 6)) ((aM 0))).bind fun q134 => ((f_M_stand N q85.2.2.1 ((us iM [(2, q134.1), (3, q134.2.1), (4, q134.2.2.1), (5, q134.2.2.2.1), (6, q134.2.2.2.2), (39, q85.1), (49, ((iM 49) - (1 : Int32))), (54, (q85.2.1 - (1 : Int32))), (55, q85.2.2.1)])) ((us aM [(10, q85.2.2.2.1), (13, q85.2.2.2.2)]))).bind fun q142 => (some ((1 : Int32), q142.1, q142.2)))))))))))
set_option maxHeartbeats 8000000 in
set_option maxRecDepth 100000 in
theorem c_M_readBehind (l : Launch) (dC : Nat → ClassId) (dI : Nat → Nat → Nat) (cy : Nat → ClassId) (ad : Nat → Nat) (sz : Nat) (N : Nat) (iM : Nat → Int32) (aM : Nat → Nat → Int32) (q : Int32 × (Nat → Int32) × (Nat → Nat → Int32)) (h : f_M_readBehind N iM aM = some q) : Met l yX8_readBehind wsX8_readBehind ({ frames := 4, cells := 0, slots := 0, locals := 93 } : Room) (cP (dC, dI) cy [.ref (ad 0)] (zzM ad cy iM aM) sz) (cQi (dC, dI) cy q.1 (zzM ad cy q.2.1 q.2.2) (va_A (zzM ad cy iM aM) sz)) 0 0 (va_A (zzM ad cy iM aM) sz) := by
  refine Met.ofW (cc := cX8_readBehind) (maxL := 3) (ret := (some .boolean)) (by decide) rfl ?_
  intro p e s m args below meth c s₁ B hml hv
  obtain ⟨hav, hsz, hP, hK, hD0, hN⟩ := hv
  have hx := B.exec
  have hb := B.bytes
  have hr := B.returns
  have hts := atoms_spec (ws := wsX8_readBehind) B.pre
  have hown : s.vm.findClass RX8 = some m.cls := findClass_of_methodNamed B.named
  have hlocks := B.notSynchronized
  subst hsz
  have hD := hD0.self (sz := s.heap.size)
  generalize hAe : va_A (zzM ad cy iM aM) s.heap.size = A at hD ⊢
  have hA : ∀ q : Nat, s.heap.size ≤ q → A q := fun q h => by rw [← hAe]; exact Or.inr h
  have hS : va_S A s.heap s.heap [] := va_S.rf
  generalize hWQ : (zzM ad cy q.2.1 q.2.2) = WQ
  generalize hQQ : MQ below (cQi (dC, dI) cy q.1 WQ A) args s 0 0 A = QQ
  have hl := lv_entry ([.ref (ad 0)] : List Value) (n := 3) (Nat.le_of_ble_eq_true rfl)
  have hfr := lg_entry_eq m ([.ref (ad 0)] : List Value) 3
  rw [← hav] at hfr
  rw [hfr]
  clear hfr hav
  generalize (lg_sl ([.ref (ad 0)] : List Value) ++ List.replicate (3 - (lg_sl ([.ref (ad 0)] : List Value)).length) Slot.unset).toArray = ls at hl ⊢
  have hl : lv_has ls 3 [(0, .ref (ad 0))] := hl
  have kf21 := hts _ (List.mem_cons_of_mem _ m_fl_X8_21)
  have ki8 := (fun w h => List.mem_cons_of_mem _ (i_X8 w h) : ∀ w ∈ u_ws RX8 TX8 78, w ∈ wsX8_readBehind)
  have kf251 := hts _ (List.mem_cons_of_mem _ m_fl_X8_251)
  have kf263 := hts _ (List.mem_cons_of_mem _ m_fl_X8_263)
  have kf95 := hts _ (List.mem_cons_of_mem _ m_fl_X8_95)
  have kf248 := hts _ (List.mem_cons_of_mem _ m_fl_X8_248)
  have kf254 := hts _ (List.mem_cons_of_mem _ m_fl_X8_254)
  refine (?_ : ∀ (H : Heap) (locs : List Loc), va_P (dC, dI) vwCl (zzM ad cy iM aM) H → va_D A (zzM ad cy iM aM) → va_S A s.heap H locs → W p l e ({ frames := 4, cells := 0, slots := 0, locals := 93 } : Room) s m args below meth c H locs 0 0 QQ (F0 m 0 ls [])) s.heap [] hP hD hS
  clear hP hD hS
  have B44 : ∀ (s1 : Int32) (x_iM : Nat → Int32) (x_aM : Nat → Nat → Int32) (H : Heap) (locs : List Loc) (ls : Array Slot), f_M_readBehind_44 N iM aM s1 x_iM x_aM = some q → va_P (dC, dI) vwCl (zzM ad cy x_iM x_aM) H → va_D A (zzM ad cy x_iM x_aM) → va_S A s.heap H locs → lv_has ls 3 [(0, .ref (ad 0))] → W p l e ({ frames := 4, cells := 0, slots := 0, locals := 93 } : Room) s m args below meth c H locs 0 0 QQ (F0 m 44 ls [.int s1, .ref (ad 0)]) := by
    intro s1 x_iM x_aM H locs ls h hP hD hS hl
    unfold f_M_readBehind_44 at h
    obtain ⟨q44, e44, h⟩ := g_b h
    refine callVis (cc := cX8_readBehind) (w1 := zzM ad cy (us x_iM [(38, q44.2.1), (46, q44.2.2.1), (47, q44.2.2.2.1)]) (us x_aM [(8, q44.2.2.2.2.1), (9, q44.2.2.2.2.2.1), (10, q44.2.2.2.2.2.2.1), (11, q44.2.2.2.2.2.2.2.1), (12, q44.2.2.2.2.2.2.2.2)])) (As := [.int s1]) (rest := []) ⟨hx, hb, hml, hown, hts⟩ (c_M_newNode l dC dI cy ad H.size s1 x_iM x_aM q44 e44) (cwV 1 hts (goodV m_ml_X8_273 m_im_X8_newNode m_se_X8_newNode m_in_X8 m_cd_X8_newNode) rfl rfl rfl (by decide +kernel) ⟨Nat.le_of_ble_eq_true rfl, Nat.le_of_ble_eq_true rfl⟩) hN hK hP hD hS hA rfl 0 rfl rfl rfl hl.1 rfl (Nat.le_of_ble_eq_true rfl) dX8_readBehind_44 ⟨Nat.zero_le _, Nat.zero_le _⟩ (fun H locs hP hD hS => ?_)
    refine lv_istore_n (lv' := [(2, .int q44.1), (0, .ref (ad 0))]) hx hb dX8_readBehind_47 rfl hl (by decide) rfl (fun ls hl => ?_)
    refine lv_aload_n hx hb dX8_readBehind_48 rfl (lv_at hl 1 rfl) ?_
    obtain ⟨q49, e49, h⟩ := g_b h
    refine callVis (cc := cX8_readBehind) (w1 := zzM ad cy (us x_iM [(38, q44.2.1), (46, q44.2.2.1), (47, q44.2.2.2.1)]) (us x_aM [(8, q44.2.2.2.2.1), (9, q44.2.2.2.2.2.1), (10, q44.2.2.2.2.2.2.1), (11, q44.2.2.2.2.2.2.2.1), (12, q44.2.2.2.2.2.2.2.2)])) (As := []) (rest := []) ⟨hx, hb, hml, hown, hts⟩ (c_M_fine l dC dI cy ad H.size ((us x_iM [(38, q44.2.1), (46, q44.2.2.1), (47, q44.2.2.2.1)])) ((us x_aM [(8, q44.2.2.2.2.1), (9, q44.2.2.2.2.2.1), (10, q44.2.2.2.2.2.2.1), (11, q44.2.2.2.2.2.2.2.1), (12, q44.2.2.2.2.2.2.2.2)])) q49 e49) (cwV 0 hts (goodV m_ml_X8_198 m_im_X8_fine m_se_X8_fine m_in_X8 m_cd_X8_fine) rfl rfl rfl (by decide +kernel) ⟨Nat.le_of_ble_eq_true rfl, Nat.le_of_ble_eq_true rfl⟩) hN hK hP hD hS hA rfl 0 rfl rfl rfl hl.1 rfl (Nat.le_of_ble_eq_true rfl) dX8_readBehind_49 ⟨Nat.zero_le _, Nat.zero_le _⟩ (fun H locs hP hD hS => ?_)
    refine lv_if_eq (tgt := 80) hx hb dX8_readBehind_52 (by decide) (fun cz => ?_) (fun cz => ?_)
    · have h := g_t h cz
      refine lv_iconst (v := 1) hx hb dX8_readBehind_80 (by decide) ?_
      have h' := Option.some.inj h
      rw [← hQQ]
      exact W.zret (v := (1 : Int32)) hx hb hr rfl (fun t ht hW => ⟨⟨(1 : Int32), (), rfl, by rw [← h'], by rw [← hWQ, ← h', ht]; exact hP, va_K.moved hW.alike hK⟩, hS.F ht⟩) hS.2.2 dX8_readBehind_81
    · have h := g_f h cz
      refine lv_aload_n hx hb dX8_readBehind_55 rfl (lv_at hl 1 rfl) ?_
      refine va_get (D := (dC, dI)) (ci := 8) (v := .ref (ad 4)) (C := RX8) (T := TX8) (N := 78) hx hb hts ki8 hown hK hP 0 rfl rfl 9 (by decide) kf21 (fun _ h9 => h9) rfl dX8_readBehind_56 ?_
      refine lv_iload_n hx hb dX8_readBehind_59 rfl (lv_at hl 0 rfl) ?_
      refine lv_aload_n hx hb dX8_readBehind_60 rfl (lv_at hl 1 rfl) ?_
      refine va_get (D := (dC, dI)) (ci := 8) (v := .int ((x_iM 55))) (C := RX8) (T := TX8) (N := 78) hx hb hts ki8 hown hK hP 0 rfl rfl 55 (by decide) kf251 (fun _ h9 => h9) rfl dX8_readBehind_61 ?_
      obtain ⟨g_83, h⟩ := g_n h
      refine va_iast (f := q44.2.2.2.2.2.1) hx hb hK hP hD hS 4 0 rfl rfl g_83 dX8_readBehind_64 (fun H locs hP hD hS => ?_)
      have hP : va_P (dC, dI) vwCl (zzM ad cy (us x_iM [(38, q44.2.1), (46, q44.2.2.1), (47, q44.2.2.2.1)]) (us x_aM [(8, q44.2.2.2.2.1), (9, (upd q44.2.2.2.2.2.1 q44.1.toNatClampNeg ((x_iM 55)))), (10, q44.2.2.2.2.2.2.1), (11, q44.2.2.2.2.2.2.2.1), (12, q44.2.2.2.2.2.2.2.2)])) H := Eq.mp (congrArg (fun w => va_P (dC, dI) vwCl w H) (stM_aM9 ad cy (us x_iM [(38, q44.2.1), (46, q44.2.2.1), (47, q44.2.2.2.1)]) x_aM [(8, q44.2.2.2.2.1), (9, q44.2.2.2.2.2.1), (10, q44.2.2.2.2.2.2.1), (11, q44.2.2.2.2.2.2.2.1), (12, q44.2.2.2.2.2.2.2.2)] ((upd q44.2.2.2.2.2.1 q44.1.toNatClampNeg ((x_iM 55)))))) hP
      have hD : va_D A (zzM ad cy (us x_iM [(38, q44.2.1), (46, q44.2.2.1), (47, q44.2.2.2.1)]) (us x_aM [(8, q44.2.2.2.2.1), (9, (upd q44.2.2.2.2.2.1 q44.1.toNatClampNeg ((x_iM 55)))), (10, q44.2.2.2.2.2.2.1), (11, q44.2.2.2.2.2.2.2.1), (12, q44.2.2.2.2.2.2.2.2)])) := Eq.mp (congrArg (fun w => va_D A w) (stM_aM9 ad cy (us x_iM [(38, q44.2.1), (46, q44.2.2.1), (47, q44.2.2.2.1)]) x_aM [(8, q44.2.2.2.2.1), (9, q44.2.2.2.2.2.1), (10, q44.2.2.2.2.2.2.1), (11, q44.2.2.2.2.2.2.2.1), (12, q44.2.2.2.2.2.2.2.2)] ((upd q44.2.2.2.2.2.1 q44.1.toNatClampNeg ((x_iM 55)))))) hD
      refine lv_aload_n hx hb dX8_readBehind_65 rfl (lv_at hl 1 rfl) ?_
      refine lv_iconst (v := 3) hx hb dX8_readBehind_66 (by decide) ?_
      refine lv_iload_n hx hb dX8_readBehind_67 rfl (lv_at hl 0 rfl) ?_
      obtain ⟨q68, e68, h⟩ := g_b h
      refine callVvs (cc := cX8_readBehind) (w1 := zzM ad cy (us x_iM [(38, q44.2.1), (46, q44.2.2.1), (47, q44.2.2.2.1), (54, q68.1)]) (us x_aM [(8, q44.2.2.2.2.1), (9, (upd q44.2.2.2.2.2.1 q44.1.toNatClampNeg ((x_iM 55)))), (10, q44.2.2.2.2.2.2.1), (11, q44.2.2.2.2.2.2.2.1), (12, q44.2.2.2.2.2.2.2.2), (52, q68.2.1), (53, q68.2.2)])) (As := [.int ((3 : Int32)), .int q44.1]) (rest := []) ⟨hx, hb, hml, hown, hts⟩ (c_M_wait l dC dI cy ad H.size ((3 : Int32)) q44.1 ((us x_iM [(38, q44.2.1), (46, q44.2.2.1), (47, q44.2.2.2.1)])) ((us x_aM [(8, q44.2.2.2.2.1), (9, (upd q44.2.2.2.2.2.1 q44.1.toNatClampNeg ((x_iM 55)))), (10, q44.2.2.2.2.2.2.1), (11, q44.2.2.2.2.2.2.2.1), (12, q44.2.2.2.2.2.2.2.2)])) q68 e68) (cwV 2 hts (goodV m_ml_X8_270 m_im_X8_wait m_se_X8_wait m_in_X8 m_cd_X8_wait) rfl rfl rfl (by decide +kernel) ⟨Nat.le_of_ble_eq_true rfl, Nat.le_of_ble_eq_true rfl⟩) hN hK hP hD hS hA rfl 0 rfl rfl rfl hl.1 rfl (Nat.le_of_ble_eq_true rfl) dX8_readBehind_68 ⟨Nat.zero_le _, Nat.zero_le _⟩ (fun H locs hP hD hS => ?_)
      refine lv_aload_n hx hb dX8_readBehind_71 rfl (lv_at hl 1 rfl) ?_
      obtain ⟨q72, e72, h⟩ := g_b h
      refine callVvs (cc := cX8_readBehind) (w1 := zzM ad cy (us x_iM [(2, q72.1), (3, q72.2.1), (4, q72.2.2.1), (5, q72.2.2.2.1), (6, q72.2.2.2.2), (38, q44.2.1), (46, q44.2.2.1), (47, q44.2.2.2.1), (54, q68.1)]) (us x_aM [(8, q44.2.2.2.2.1), (9, (upd q44.2.2.2.2.2.1 q44.1.toNatClampNeg ((x_iM 55)))), (10, q44.2.2.2.2.2.2.1), (11, q44.2.2.2.2.2.2.2.1), (12, q44.2.2.2.2.2.2.2.2), (52, q68.2.1), (53, q68.2.2)])) (As := []) (rest := []) ⟨hx, hb, hml, hown, hts⟩ (c_M_next l dC dI cy ad H.size N ((us x_iM [(38, q44.2.1), (46, q44.2.2.1), (47, q44.2.2.2.1), (54, q68.1)])) ((us x_aM [(8, q44.2.2.2.2.1), (9, (upd q44.2.2.2.2.2.1 q44.1.toNatClampNeg ((x_iM 55)))), (10, q44.2.2.2.2.2.2.1), (11, q44.2.2.2.2.2.2.2.1), (12, q44.2.2.2.2.2.2.2.2), (52, q68.2.1), (53, q68.2.2)])) q72 e72) (cwV 0 hts (goodV m_ml_X8_205 m_im_X8_next m_se_X8_next m_in_X8 m_cd_X8_next) rfl rfl rfl (by decide +kernel) ⟨Nat.le_of_ble_eq_true rfl, Nat.le_of_ble_eq_true rfl⟩) hN hK hP hD hS hA rfl 0 rfl rfl rfl hl.1 rfl (Nat.le_of_ble_eq_true rfl) dX8_readBehind_72 ⟨Nat.zero_le _, Nat.zero_le _⟩ (fun H locs hP hD hS => ?_)
      refine lv_aload_n hx hb dX8_readBehind_75 rfl (lv_at hl 1 rfl) ?_
      refine lv_iconst (v := 1) hx hb dX8_readBehind_76 (by decide) ?_
      refine va_put (D := (dC, dI)) (ci := 8) (v := .int ((1 : Int32))) (ty := .boolean) (C := RX8) (T := TX8) (N := 78) hx hb hts ki8 tyX8 tyX8_ok nmX8 hown hK hP hD hS 0 rfl rfl 56 (by decide) kf263 (fun _ h9 => h9) rfl (by decide +kernel) rfl rfl (Nat.le_of_ble_eq_true rfl) dX8_readBehind_77 (fun H locs hP hD hS => ?_)
      have hP : va_P (dC, dI) vwCl (zzM ad cy (us x_iM [(2, q72.1), (3, q72.2.1), (4, q72.2.2.1), (5, q72.2.2.2.1), (6, q72.2.2.2.2), (38, q44.2.1), (46, q44.2.2.1), (47, q44.2.2.2.1), (54, q68.1), (56, (1 : Int32))]) (us x_aM [(8, q44.2.2.2.2.1), (9, (upd q44.2.2.2.2.2.1 q44.1.toNatClampNeg ((x_iM 55)))), (10, q44.2.2.2.2.2.2.1), (11, q44.2.2.2.2.2.2.2.1), (12, q44.2.2.2.2.2.2.2.2), (52, q68.2.1), (53, q68.2.2)])) H := Eq.mp (congrArg (fun w => va_P (dC, dI) vwCl w H) (stM_iM56 ad cy x_iM (us x_aM [(8, q44.2.2.2.2.1), (9, (upd q44.2.2.2.2.2.1 q44.1.toNatClampNeg ((x_iM 55)))), (10, q44.2.2.2.2.2.2.1), (11, q44.2.2.2.2.2.2.2.1), (12, q44.2.2.2.2.2.2.2.2), (52, q68.2.1), (53, q68.2.2)]) [(2, q72.1), (3, q72.2.1), (4, q72.2.2.1), (5, q72.2.2.2.1), (6, q72.2.2.2.2), (38, q44.2.1), (46, q44.2.2.1), (47, q44.2.2.2.1), (54, q68.1)] ((1 : Int32)))) hP
      have hD : va_D A (zzM ad cy (us x_iM [(2, q72.1), (3, q72.2.1), (4, q72.2.2.1), (5, q72.2.2.2.1), (6, q72.2.2.2.2), (38, q44.2.1), (46, q44.2.2.1), (47, q44.2.2.2.1), (54, q68.1), (56, (1 : Int32))]) (us x_aM [(8, q44.2.2.2.2.1), (9, (upd q44.2.2.2.2.2.1 q44.1.toNatClampNeg ((x_iM 55)))), (10, q44.2.2.2.2.2.2.1), (11, q44.2.2.2.2.2.2.2.1), (12, q44.2.2.2.2.2.2.2.2), (52, q68.2.1), (53, q68.2.2)])) := Eq.mp (congrArg (fun w => va_D A w) (stM_iM56 ad cy x_iM (us x_aM [(8, q44.2.2.2.2.1), (9, (upd q44.2.2.2.2.2.1 q44.1.toNatClampNeg ((x_iM 55)))), (10, q44.2.2.2.2.2.2.1), (11, q44.2.2.2.2.2.2.2.1), (12, q44.2.2.2.2.2.2.2.2), (52, q68.2.1), (53, q68.2.2)]) [(2, q72.1), (3, q72.2.1), (4, q72.2.2.1), (5, q72.2.2.2.1), (6, q72.2.2.2.2), (38, q44.2.1), (46, q44.2.2.1), (47, q44.2.2.2.1), (54, q68.1)] ((1 : Int32)))) hD
      refine lv_iconst (v := 1) hx hb dX8_readBehind_80 (by decide) ?_
      have h' := Option.some.inj h
      rw [← hQQ]
      exact W.zret (v := (1 : Int32)) hx hb hr rfl (fun t ht hW => ⟨⟨(1 : Int32), (), rfl, by rw [← h'], by rw [← hWQ, ← h', ht]; exact hP, va_K.moved hW.alike hK⟩, hS.F ht⟩) hS.2.2 dX8_readBehind_81
  have B28 : ∀ (v1 : Int32) (s1 : Int32) (H : Heap) (locs : List Loc) (ls : Array Slot), f_M_readBehind_28 N iM aM v1 s1 = some q → va_P (dC, dI) vwCl (zzM ad cy iM aM) H → va_D A (zzM ad cy iM aM) → va_S A s.heap H locs → lv_has ls 3 [(0, .ref (ad 0)), (1, .int v1)] → W p l e ({ frames := 4, cells := 0, slots := 0, locals := 93 } : Room) s m args below meth c H locs 0 0 QQ (F0 m 28 ls [.int s1, .ref (ad 0)]) := by
    intro v1 s1 H locs ls h hP hD hS hl
    unfold f_M_readBehind_28 at h
    obtain ⟨q28, e28, h⟩ := g_b h
    refine callVvs (cc := cX8_readBehind) (w1 := zzM ad cy (us iM [(39, q28.1), (54, q28.2.1), (55, q28.2.2.1)]) (us aM [(10, q28.2.2.2.1), (13, q28.2.2.2.2)])) (As := [.int s1]) (rest := []) ⟨hx, hb, hml, hown, hts⟩ (c_M_close l dC dI cy ad H.size N s1 iM aM q28 e28) (cwV 1 hts (goodV m_ml_X8_286 m_im_X8_close m_se_X8_close m_in_X8 m_cd_X8_close) rfl rfl rfl (by decide +kernel) ⟨Nat.le_of_ble_eq_true rfl, Nat.le_of_ble_eq_true rfl⟩) hN hK hP hD hS hA rfl 0 rfl rfl rfl hl.1 rfl (Nat.le_of_ble_eq_true rfl) dX8_readBehind_28 ⟨Nat.zero_le _, Nat.zero_le _⟩ (fun H locs hP hD hS => ?_)
    refine lv_aload_n hx hb dX8_readBehind_31 rfl (lv_at hl 0 rfl) ?_
    refine lv_iload_n hx hb dX8_readBehind_32 rfl (lv_at hl 1 rfl) ?_
    refine lv_iconst (v := 4) hx hb dX8_readBehind_33 (by decide) ?_
    refine lv_icmp_ne (tgt := 42) hx hb dX8_readBehind_34 (by decide) (fun cz => ?_) (fun cz => ?_)
    · have h := g_f h cz
      refine lv_bipush (v := 7) hx hb dX8_readBehind_42 (by decide) ?_
      exact B44 ((7 : Int32)) ((us iM [(39, q28.1), (54, q28.2.1), (55, q28.2.2.1)])) ((us aM [(10, q28.2.2.2.1), (13, q28.2.2.2.2)])) H locs ls h hP hD hS (lv_sub hl [0] rfl)
    · have h := g_t h cz
      refine lv_bipush (v := 6) hx hb dX8_readBehind_37 (by decide) ?_
      refine lv_goto (tgt := 44) hx hb dX8_readBehind_39 (by decide) ?_
      exact B44 ((6 : Int32)) ((us iM [(39, q28.1), (54, q28.2.1), (55, q28.2.2.1)])) ((us aM [(10, q28.2.2.2.1), (13, q28.2.2.2.2)])) H locs ls h hP hD hS (lv_sub hl [0] rfl)
  have B15 : ∀ (v1 : Int32) (H : Heap) (locs : List Loc) (ls : Array Slot), f_M_readBehind_15 N iM aM v1 = some q → va_P (dC, dI) vwCl (zzM ad cy iM aM) H → va_D A (zzM ad cy iM aM) → va_S A s.heap H locs → lv_has ls 3 [(0, .ref (ad 0)), (1, .int v1)] → W p l e ({ frames := 4, cells := 0, slots := 0, locals := 93 } : Room) s m args below meth c H locs 0 0 QQ (F0 m 15 ls []) := by
    intro v1 H locs ls h hP hD hS hl
    unfold f_M_readBehind_15 at h
    refine lv_aload_n hx hb dX8_readBehind_15 rfl (lv_at hl 0 rfl) ?_
    refine lv_iload_n hx hb dX8_readBehind_16 rfl (lv_at hl 1 rfl) ?_
    refine lv_iconst (v := 4) hx hb dX8_readBehind_17 (by decide) ?_
    refine lv_icmp_ne (tgt := 26) hx hb dX8_readBehind_18 (by decide) (fun cz => ?_) (fun cz => ?_)
    · have h := g_f h cz
      refine lv_bipush (v := 7) hx hb dX8_readBehind_26 (by decide) ?_
      exact B28 v1 ((7 : Int32)) H locs ls h hP hD hS (lv_sub hl [0, 1] rfl)
    · have h := g_t h cz
      refine lv_bipush (v := 6) hx hb dX8_readBehind_21 (by decide) ?_
      refine lv_goto (tgt := 28) hx hb dX8_readBehind_23 (by decide) ?_
      exact B28 v1 ((6 : Int32)) H locs ls h hP hD hS (lv_sub hl [0, 1] rfl)
  intro H locs hP hD hS
  unfold f_M_readBehind at h
  refine lv_aload_n hx hb dX8_readBehind_0 rfl (lv_at hl 0 rfl) ?_
  obtain ⟨q1, e1, h⟩ := g_b h
  refine callVis (cc := cX8_readBehind) (w1 := zzM ad cy iM aM) (As := []) (rest := []) ⟨hx, hb, hml, hown, hts⟩ (c_M_kept l dC dI cy ad H.size N iM aM q1 e1) (cwV 0 hts (goodV m_ml_X8_224 m_im_X8_kept m_se_X8_kept m_in_X8 m_cd_X8_kept) rfl rfl rfl (by decide +kernel) ⟨Nat.le_of_ble_eq_true rfl, Nat.le_of_ble_eq_true rfl⟩) hN hK hP hD hS hA rfl 0 rfl rfl rfl hl.1 rfl (Nat.le_of_ble_eq_true rfl) dX8_readBehind_1 ⟨Nat.zero_le _, Nat.zero_le _⟩ (fun H locs hP hD hS => ?_)
  refine lv_istore_n (lv' := [(1, .int q1), (0, .ref (ad 0))]) hx hb dX8_readBehind_4 rfl hl (by decide) rfl (fun ls hl => ?_)
  refine lv_iload_n hx hb dX8_readBehind_5 rfl (lv_at hl 0 rfl) ?_
  refine lv_iconst (v := 4) hx hb dX8_readBehind_6 (by decide) ?_
  refine lv_icmp_eq (tgt := 15) hx hb dX8_readBehind_7 (by decide) (fun cz => ?_) (fun cz => ?_)
  · have h := g_t h cz
    exact B15 q1 H locs ls h hP hD hS (lv_sub hl [1, 0] rfl)
  · have h := g_f h cz
    refine lv_iload_n hx hb dX8_readBehind_10 rfl (lv_at hl 0 rfl) ?_
    refine lv_iconst (v := 3) hx hb dX8_readBehind_11 (by decide) ?_
    refine lv_icmp_ne (tgt := 82) hx hb dX8_readBehind_12 (by decide) (fun cz => ?_) (fun cz => ?_)
    · have h := g_f h cz
      refine lv_aload_n hx hb dX8_readBehind_82 rfl (lv_at hl 1 rfl) ?_
      refine lv_bipush (v := 7) hx hb dX8_readBehind_83 (by decide) ?_
      obtain ⟨q85, e85, h⟩ := g_b h
      refine callVvs (cc := cX8_readBehind) (w1 := zzM ad cy (us iM [(39, q85.1), (54, q85.2.1), (55, q85.2.2.1)]) (us aM [(10, q85.2.2.2.1), (13, q85.2.2.2.2)])) (As := [.int ((7 : Int32))]) (rest := []) ⟨hx, hb, hml, hown, hts⟩ (c_M_close l dC dI cy ad H.size N ((7 : Int32)) iM aM q85 e85) (cwV 1 hts (goodV m_ml_X8_286 m_im_X8_close m_se_X8_close m_in_X8 m_cd_X8_close) rfl rfl rfl (by decide +kernel) ⟨Nat.le_of_ble_eq_true rfl, Nat.le_of_ble_eq_true rfl⟩) hN hK hP hD hS hA rfl 0 rfl rfl rfl hl.1 rfl (Nat.le_of_ble_eq_true rfl) dX8_readBehind_85 ⟨Nat.zero_le _, Nat.zero_le _⟩ (fun H locs hP hD hS => ?_)
      refine lv_aload_n hx hb dX8_readBehind_88 rfl (lv_at hl 1 rfl) ?_
      refine va_get (D := (dC, dI)) (ci := 8) (v := .ref (ad 27)) (C := RX8) (T := TX8) (N := 78) hx hb hts ki8 hown hK hP 0 rfl rfl 52 (by decide) kf95 (fun _ h9 => h9) rfl dX8_readBehind_89 ?_
      refine lv_aload_n hx hb dX8_readBehind_92 rfl (lv_at hl 1 rfl) ?_
      refine va_get (D := (dC, dI)) (ci := 8) (v := .int q85.2.1) (C := RX8) (T := TX8) (N := 78) hx hb hts ki8 hown hK hP 0 rfl rfl 54 (by decide) kf248 (fun _ h9 => h9) rfl dX8_readBehind_93 ?_
      refine lv_iconst (v := 1) hx hb dX8_readBehind_96 (by decide) ?_
      refine lv_isub hx hb dX8_readBehind_97 ?_
      obtain ⟨g_84, h⟩ := g_n h
      refine va_iald (f := (aM 52)) hx hb hK hP 27 0 rfl rfl g_84 dX8_readBehind_98 ?_
      refine lv_if_ne (tgt := 104) hx hb dX8_readBehind_99 (by decide) (fun cz => ?_) (fun cz => ?_)
      · have h := g_f h cz
        refine lv_aload_n hx hb dX8_readBehind_104 rfl (lv_at hl 1 rfl) ?_
        refine lv_bipush (v := 41) hx hb dX8_readBehind_105 (by decide) ?_
        obtain ⟨q107, e107, h⟩ := g_b h
        refine callVis (cc := cX8_readBehind) (w1 := zzM ad cy (us iM [(39, q85.1), (54, q85.2.1), (55, q85.2.2.1)]) (us aM [(10, q85.2.2.2.1), (13, q85.2.2.2.2)])) (As := [.int ((41 : Int32))]) (rest := []) ⟨hx, hb, hml, hown, hts⟩ (c_M_isSignHere l dC dI cy ad H.size ((41 : Int32)) ((us iM [(39, q85.1), (54, q85.2.1), (55, q85.2.2.1)])) ((us aM [(10, q85.2.2.2.1), (13, q85.2.2.2.2)])) q107 e107) (cwV 1 hts (goodV m_ml_X8_202 m_im_X8_isSignHere m_se_X8_isSignHere m_in_X8 m_cd_X8_isSignHere) rfl rfl rfl (by decide +kernel) ⟨Nat.le_of_ble_eq_true rfl, Nat.le_of_ble_eq_true rfl⟩) hN hK hP hD hS hA rfl 0 rfl rfl rfl hl.1 rfl (Nat.le_of_ble_eq_true rfl) dX8_readBehind_107 ⟨Nat.zero_le _, Nat.zero_le _⟩ (fun H locs hP hD hS => ?_)
        refine lv_if_eq (tgt := 148) hx hb dX8_readBehind_110 (by decide) (fun cz => ?_) (fun cz => ?_)
        · have h := g_t h cz
          refine lv_aload_n hx hb dX8_readBehind_148 rfl (lv_at hl 1 rfl) ?_
          obtain ⟨q149, e149, h⟩ := g_b h
          refine callVvs (cc := cX8_readBehind) (w1 := zzM ad cy (us iM [(39, q85.1), (46, q149.1), (47, q149.2), (54, q85.2.1), (55, q85.2.2.1)]) (us aM [(10, q85.2.2.2.1), (13, q85.2.2.2.2)])) (As := []) (rest := []) ⟨hx, hb, hml, hown, hts⟩ (c_M_misplaced l dC dI cy ad H.size ((us iM [(39, q85.1), (54, q85.2.1), (55, q85.2.2.1)])) ((us aM [(10, q85.2.2.2.1), (13, q85.2.2.2.2)])) q149 e149) (cwV 0 hts (goodV m_ml_X8_208 m_im_X8_misplaced m_se_X8_misplaced m_in_X8 m_cd_X8_misplaced) rfl rfl rfl (by decide +kernel) ⟨Nat.le_of_ble_eq_true rfl, Nat.le_of_ble_eq_true rfl⟩) hN hK hP hD hS hA rfl 0 rfl rfl rfl hl.1 rfl (Nat.le_of_ble_eq_true rfl) dX8_readBehind_149 ⟨Nat.zero_le _, Nat.zero_le _⟩ (fun H locs hP hD hS => ?_)
          refine lv_iconst (v := 1) hx hb dX8_readBehind_152 (by decide) ?_
          have h' := Option.some.inj h
          rw [← hQQ]
          exact W.zret (v := (1 : Int32)) hx hb hr rfl (fun t ht hW => ⟨⟨(1 : Int32), (), rfl, by rw [← h'], by rw [← hWQ, ← h', ht]; exact hP, va_K.moved hW.alike hK⟩, hS.F ht⟩) hS.2.2 dX8_readBehind_153
        · have h := g_f h cz
          refine lv_aload_n hx hb dX8_readBehind_113 rfl (lv_at hl 1 rfl) ?_
          refine lv_dup hx hb dX8_readBehind_114 rfl ?_
          refine va_get (D := (dC, dI)) (ci := 8) (v := .int q85.2.1) (C := RX8) (T := TX8) (N := 78) hx hb hts ki8 hown hK hP 0 rfl rfl 54 (by decide) kf248 (fun _ h9 => h9) rfl dX8_readBehind_115 ?_
          refine lv_iconst (v := 1) hx hb dX8_readBehind_118 (by decide) ?_
          refine lv_isub hx hb dX8_readBehind_119 ?_
          refine va_put (D := (dC, dI)) (ci := 8) (v := .int ((q85.2.1 - (1 : Int32)))) (ty := .int) (C := RX8) (T := TX8) (N := 78) hx hb hts ki8 tyX8 tyX8_ok nmX8 hown hK hP hD hS 0 rfl rfl 54 (by decide) kf248 (fun _ h9 => h9) rfl (by decide +kernel) rfl rfl (Nat.le_of_ble_eq_true rfl) dX8_readBehind_120 (fun H locs hP hD hS => ?_)
          have hP : va_P (dC, dI) vwCl (zzM ad cy (us iM [(39, q85.1), (54, (q85.2.1 - (1 : Int32))), (55, q85.2.2.1)]) (us aM [(10, q85.2.2.2.1), (13, q85.2.2.2.2)])) H := Eq.mp (congrArg (fun w => va_P (dC, dI) vwCl w H) (stM_iM54 ad cy iM (us aM [(10, q85.2.2.2.1), (13, q85.2.2.2.2)]) [(39, q85.1), (54, q85.2.1), (55, q85.2.2.1)] ((q85.2.1 - (1 : Int32))))) hP
          have hD : va_D A (zzM ad cy (us iM [(39, q85.1), (54, (q85.2.1 - (1 : Int32))), (55, q85.2.2.1)]) (us aM [(10, q85.2.2.2.1), (13, q85.2.2.2.2)])) := Eq.mp (congrArg (fun w => va_D A w) (stM_iM54 ad cy iM (us aM [(10, q85.2.2.2.1), (13, q85.2.2.2.2)]) [(39, q85.1), (54, q85.2.1), (55, q85.2.2.1)] ((q85.2.1 - (1 : Int32))))) hD
          refine lv_aload_n hx hb dX8_readBehind_123 rfl (lv_at hl 1 rfl) ?_
          refine lv_dup hx hb dX8_readBehind_124 rfl ?_
          refine va_get (D := (dC, dI)) (ci := 8) (v := .int ((iM 49))) (C := RX8) (T := TX8) (N := 78) hx hb hts ki8 hown hK hP 0 rfl rfl 49 (by decide) kf254 (fun _ h9 => h9) rfl dX8_readBehind_125 ?_
          refine lv_iconst (v := 1) hx hb dX8_readBehind_128 (by decide) ?_
          refine lv_isub hx hb dX8_readBehind_129 ?_
          refine va_put (D := (dC, dI)) (ci := 8) (v := .int (((iM 49) - (1 : Int32)))) (ty := .int) (C := RX8) (T := TX8) (N := 78) hx hb hts ki8 tyX8 tyX8_ok nmX8 hown hK hP hD hS 0 rfl rfl 49 (by decide) kf254 (fun _ h9 => h9) rfl (by decide +kernel) rfl rfl (Nat.le_of_ble_eq_true rfl) dX8_readBehind_130 (fun H locs hP hD hS => ?_)
          have hP : va_P (dC, dI) vwCl (zzM ad cy (us iM [(39, q85.1), (49, ((iM 49) - (1 : Int32))), (54, (q85.2.1 - (1 : Int32))), (55, q85.2.2.1)]) (us aM [(10, q85.2.2.2.1), (13, q85.2.2.2.2)])) H := Eq.mp (congrArg (fun w => va_P (dC, dI) vwCl w H) (stM_iM49 ad cy iM (us aM [(10, q85.2.2.2.1), (13, q85.2.2.2.2)]) [(39, q85.1), (54, (q85.2.1 - (1 : Int32))), (55, q85.2.2.1)] (((iM 49) - (1 : Int32))))) hP
          have hD : va_D A (zzM ad cy (us iM [(39, q85.1), (49, ((iM 49) - (1 : Int32))), (54, (q85.2.1 - (1 : Int32))), (55, q85.2.2.1)]) (us aM [(10, q85.2.2.2.1), (13, q85.2.2.2.2)])) := Eq.mp (congrArg (fun w => va_D A w) (stM_iM49 ad cy iM (us aM [(10, q85.2.2.2.1), (13, q85.2.2.2.2)]) [(39, q85.1), (54, (q85.2.1 - (1 : Int32))), (55, q85.2.2.1)] (((iM 49) - (1 : Int32))))) hD
          refine lv_aload_n hx hb dX8_readBehind_133 rfl (lv_at hl 1 rfl) ?_
          obtain ⟨q134, e134, h⟩ := g_b h
          refine callVvs (cc := cX8_readBehind) (w1 := zzM ad cy (us iM [(2, q134.1), (3, q134.2.1), (4, q134.2.2.1), (5, q134.2.2.2.1), (6, q134.2.2.2.2), (39, q85.1), (49, ((iM 49) - (1 : Int32))), (54, (q85.2.1 - (1 : Int32))), (55, q85.2.2.1)]) (us aM [(10, q85.2.2.2.1), (13, q85.2.2.2.2)])) (As := []) (rest := []) ⟨hx, hb, hml, hown, hts⟩ (c_M_next l dC dI cy ad H.size N ((us iM [(39, q85.1), (49, ((iM 49) - (1 : Int32))), (54, (q85.2.1 - (1 : Int32))), (55, q85.2.2.1)])) ((us aM [(10, q85.2.2.2.1), (13, q85.2.2.2.2)])) q134 e134) (cwV 0 hts (goodV m_ml_X8_205 m_im_X8_next m_se_X8_next m_in_X8 m_cd_X8_next) rfl rfl rfl (by decide +kernel) ⟨Nat.le_of_ble_eq_true rfl, Nat.le_of_ble_eq_true rfl⟩) hN hK hP hD hS hA rfl 0 rfl rfl rfl hl.1 rfl (Nat.le_of_ble_eq_true rfl) dX8_readBehind_134 ⟨Nat.zero_le _, Nat.zero_le _⟩ (fun H locs hP hD hS => ?_)
          refine lv_aload_n hx hb dX8_readBehind_137 rfl (lv_at hl 1 rfl) ?_
          refine lv_aload_n hx hb dX8_readBehind_138 rfl (lv_at hl 1 rfl) ?_
          refine va_get (D := (dC, dI)) (ci := 8) (v := .int q85.2.2.1) (C := RX8) (T := TX8) (N := 78) hx hb hts ki8 hown hK hP 0 rfl rfl 55 (by decide) kf251 (fun _ h9 => h9) rfl dX8_readBehind_139 ?_
          obtain ⟨q142, e142, h⟩ := g_b h
          refine callVvs (cc := cX8_readBehind) (w1 := zzM ad cy q142.1 q142.2) (As := [.int q85.2.2.1]) (rest := []) ⟨hx, hb, hml, hown, hts⟩ (c_M_stand l dC dI cy ad H.size N q85.2.2.1 ((us iM [(2, q134.1), (3, q134.2.1), (4, q134.2.2.1), (5, q134.2.2.2.1), (6, q134.2.2.2.2), (39, q85.1), (49, ((iM 49) - (1 : Int32))), (54, (q85.2.1 - (1 : Int32))), (55, q85.2.2.1)])) ((us aM [(10, q85.2.2.2.1), (13, q85.2.2.2.2)])) q142 e142) (cwV 1 hts (goodV m_ml_X8_283 m_im_X8_stand m_se_X8_stand m_in_X8 m_cd_X8_stand) rfl rfl rfl (by decide +kernel) ⟨Nat.le_of_ble_eq_true rfl, Nat.le_of_ble_eq_true rfl⟩) hN hK hP hD hS hA rfl 0 rfl rfl rfl hl.1 rfl (Nat.le_of_ble_eq_true rfl) dX8_readBehind_142 ⟨Nat.zero_le _, Nat.zero_le _⟩ (fun H locs hP hD hS => ?_)
          refine lv_goto (tgt := 152) hx hb dX8_readBehind_145 (by decide) ?_
          refine lv_iconst (v := 1) hx hb dX8_readBehind_152 (by decide) ?_
          have h' := Option.some.inj h
          rw [← hQQ]
          exact W.zret (v := (1 : Int32)) hx hb hr rfl (fun t ht hW => ⟨⟨(1 : Int32), (), rfl, by rw [← h'], by rw [← hWQ, ← h', ht]; exact hP, va_K.moved hW.alike hK⟩, hS.F ht⟩) hS.2.2 dX8_readBehind_153
      · have h := g_t h cz
        refine lv_iconst (v := 0) hx hb dX8_readBehind_102 (by decide) ?_
        have h' := Option.some.inj h
        rw [← hQQ]
        exact W.zret (v := (0 : Int32)) hx hb hr rfl (fun t ht hW => ⟨⟨(0 : Int32), (), rfl, by rw [← h'], by rw [← hWQ, ← h', ht]; exact hP, va_K.moved hW.alike hK⟩, hS.F ht⟩) hS.2.2 dX8_readBehind_103
    · have h := g_t h cz
      exact B15 q1 H locs ls h hP hD hS (lv_sub hl [1, 0] rfl)
