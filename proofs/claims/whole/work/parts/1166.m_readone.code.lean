def f_M_readOne_166 (N : Nat) (iM : Nat → Int32) (aM : Nat → Nat → Int32) (v2 : Int32) (x_iM : Nat → Int32) (x_aM : Nat → Nat → Int32) : Option ((Nat → Int32) × (Nat → Nat → Int32)) := (f_M_wait ((2 : Int32)) v2 ((x_iM 54)) ((x_aM 52)) ((x_aM 53))).bind fun q169 => (some ((us x_iM [(54, q169.1)]), (us x_aM [(52, q169.2.1), (53, q169.2.2)])))
def f_M_readOne_182 (N : Nat) (iM : Nat → Int32) (aM : Nat → Nat → Int32) (v2 : Int32) (x_iM : Nat → Int32) (x_aM : Nat → Nat → Int32) : Option ((Nat → Int32) × (Nat → Nat → Int32)) := (f_M_fine ((x_iM 46))).bind fun q183 => (if q183 = 0 then (some (x_iM, x_aM)) else ((f_M_ended v2 ((x_iM 39)) ((x_aM 13))).bind fun q191 => ((f_M_next N ((x_iM 1)) ((x_iM 2)) ((x_iM 3)) ((x_iM 4)) ((x_iM 5)) ((x_iM 6)) ((x_aM 0))).bind fun q195 => ((f_M_stand N v2 ((us x_iM [(2, q195.1), (3, q195.2.1), (4, q195.2.2.1), (5, q195.2.2.2.1), (6, q195.2.2.2.2), (39, q191.1)])) ((us x_aM [(13, q191.2)]))).bind fun q200 => (some (q200.1, q200.2))))))
def f_M_readOne_173 (N : Nat) (iM : Nat → Int32) (aM : Nat → Nat → Int32) (v1 : Int32) (v2 : Int32) (x_iM : Nat → Int32) (x_aM : Nat → Nat → Int32) : Option ((Nat → Int32) × (Nat → Nat → Int32)) := if 0 ≤ v1 then (f_M_readOne_182 N iM aM v2 x_iM x_aM) else ((f_M_readName N v2 ((x_iM 4)) ((x_iM 5)) ((x_iM 43)) ((x_iM 44)) ((x_iM 45)) ((x_iM 46)) ((x_iM 47)) ((x_aM 0)) ((x_aM 9)) ((x_aM 11)) ((x_aM 12)) ((x_aM 23)) ((x_aM 24)) ((x_aM 26)) ((x_aM 27)) ((x_aM 32)) ((x_aM 33)) ((x_aM 34)) ((x_aM 35))).bind fun q179 => (f_M_readOne_182 N iM aM v2 ((us x_iM [(43, q179.1), (45, q179.2.1), (46, q179.2.2.1), (47, q179.2.2.2.1)])) ((us x_aM [(9, q179.2.2.2.2.1), (11, q179.2.2.2.2.2.1), (23, q179.2.2.2.2.2.2.1), (24, q179.2.2.2.2.2.2.2.1), (32, q179.2.2.2.2.2.2.2.2.1), (33, q179.2.2.2.2.2.2.2.2.2.1), (34, q179.2.2.2.2.2.2.2.2.2.2.1), (35, q179.2.2.2.2.2.2.2.2.2.2.2)]))))
def f_M_readOne_105 (N : Nat) (iM : Nat → Int32) (aM : Nat → Nat → Int32) (v1 : Int32) (s1 : Int32) : Option ((Nat → Int32) × (Nat → Nat → Int32)) := (f_M_newNode s1 ((iM 4)) ((iM 38)) ((iM 46)) ((iM 47)) ((aM 8)) ((aM 9)) ((aM 10)) ((aM 11)) ((aM 12))).bind fun q105 => ((f_M_fine q105.2.2.1).bind fun q110 => (if q110 = 0 then (some ((us iM [(38, q105.2.1), (46, q105.2.2.1), (47, q105.2.2.2.1)]), (us aM [(8, q105.2.2.2.2.1), (9, q105.2.2.2.2.2.1), (10, q105.2.2.2.2.2.2.1), (11, q105.2.2.2.2.2.2.2.1), (12, q105.2.2.2.2.2.2.2.2)]))) else (if v1 < (5 : Int32) then (f_M_readOne_173 N iM aM v1 q105.1 ((us iM [(38, q105.2.1), (46, q105.2.2.1), (47, q105.2.2.2.1)])) ((us aM [(8, q105.2.2.2.2.1), (9, q105.2.2.2.2.2.1), (10, q105.2.2.2.2.2.2.1), (11, q105.2.2.2.2.2.2.2.1), (12, q105.2.2.2.2.2.2.2.2)]))) else (if (7 : Int32) < v1 then (f_M_readOne_173 N iM aM v1 q105.1 ((us iM [(38, q105.2.1), (46, q105.2.2.1), (47, q105.2.2.2.1)])) ((us aM [(8, q105.2.2.2.2.1), (9, q105.2.2.2.2.2.1), (10, q105.2.2.2.2.2.2.1), (11, q105.2.2.2.2.2.2.2.1), (12, q105.2.2.2.2.2.2.2.2)]))) else ((f_M_goesDeeper ((iM 4)) q105.2.2.1 q105.2.2.2.1 ((iM 49))).bind fun q129 => (if q129.1 = 0 then (some ((us iM [(38, q105.2.1), (46, q129.2.1), (47, q129.2.2.1), (49, q129.2.2.2)]), (us aM [(8, q105.2.2.2.2.1), (9, q105.2.2.2.2.2.1), (10, q105.2.2.2.2.2.2.1), (11, q105.2.2.2.2.2.2.2.1), (12, q105.2.2.2.2.2.2.2.2)]))) else ((f_M_next N ((iM 1)) ((iM 2)) ((iM 3)) ((iM 4)) ((iM 5)) ((iM 6)) ((aM 0))).bind fun q137 => (if v1 = (5 : Int32) then (f_M_readOne_166 N iM aM q105.1 ((us iM [(2, q137.1), (3, q137.2.1), (4, q137.2.2.1), (5, q137.2.2.2.1), (6, q137.2.2.2.2), (38, q105.2.1), (46, q129.2.1), (47, q129.2.2.1), (49, q129.2.2.2)])) ((us aM [(8, q105.2.2.2.2.1), (9, q105.2.2.2.2.2.1), (10, q105.2.2.2.2.2.2.1), (11, q105.2.2.2.2.2.2.2.1), (12, q105.2.2.2.2.2.2.2.2)]))) else ((f_M_readRole N q137.2.1 q137.2.2.1 q137.2.2.2.1 ((iM 43)) ((iM 44)) q129.2.1 q129.2.2.1 ((aM 0)) ((aM 7)) ((aM 23)) ((aM 24)) ((aM 26)) ((aM 27)) ((aM 29)) ((aM 31))).bind fun q151 => (if q105.1 < 0 ∨ 400 ≤ q105.1.toNatClampNeg then none else ((f_M_fine q151.2.2.1).bind fun q156 => (if q156 = 0 then (f_M_readOne_166 N iM aM q105.1 ((us iM [(2, q137.1), (3, q137.2.1), (4, q137.2.2.1), (5, q137.2.2.2.1), (6, q137.2.2.2.2), (38, q105.2.1), (44, q151.2.1), (46, q151.2.2.1), (47, q151.2.2.2.1), (49, q129.2.2.2)])) ((us aM [(8, q105.2.2.2.2.1), (9, (upd q105.2.2.2.2.2.1 q105.1.toNatClampNeg q151.1)), (10, q105.2.2.2.2.2.2.1), (11, q105.2.2.2.2.2.2.2.1), (12, q105.2.2.2.2.2.2.2.2), (26, q151.2.2.2.2.1), (27, q151.2.2.2.2.2.1), (29, q151.2.2.2.2.2.2.1), (31, q151.2.2.2.2.2.2.2)]))) else ((f_M_next N ((iM 1)) q137.1 q137.2.1 q137.2.2.1 q137.2.2.2.1 q137.2.2.2.2 ((aM 0))).bind fun q163 => (f_M_readOne_166 N iM aM q105.1 ((us iM [(2, q163.1), (3, q163.2.1), (4, q163.2.2.1), (5, q163.2.2.2.1), (6, q163.2.2.2.2), (38, q105.2.1), (44, q151.2.1), (46, q151.2.2.1), (47, q151.2.2.2.1), (49, q129.2.2.2)])) ((us aM [(8, q105.2.2.2.2.1), (9, (upd q105.2.2.2.2.2.1 q105.1.toNatClampNeg q151.1)), (10, q105.2.2.2.2.2.2.1), (11, q105.2.2.2.2.2.2.2.1), (12, q105.2.2.2.2.2.2.2.2), (26, q151.2.2.2.2.1), (27, q151.2.2.2.2.2.1), (29, q151.2.2.2.2.2.2.1), (31, q151.2.2.2.2.2.2.2)]))))))))))))))))
def f_M_readOne_54 (N : Nat) (iM : Nat → Int32) (aM : Nat → Nat → Int32) (v1 : Int32) : Option ((Nat → Int32) × (Nat → Nat → Int32)) := if v1 = (5 : Int32) then (f_M_readOne_105 N iM aM v1 ((3 : Int32))) else (if v1 = (6 : Int32) then (f_M_readOne_105 N iM aM v1 ((4 : Int32))) else (if v1 = (7 : Int32) then (f_M_readOne_105 N iM aM v1 ((5 : Int32))) else (if v1 = (8 : Int32) then (f_M_readOne_105 N iM aM v1 ((1 : Int32))) else (if v1 = (9 : Int32) then (f_M_readOne_105 N iM aM v1 ((2 : Int32))) else (f_M_readOne_105 N iM aM v1 ((0 : Int32)))))))
def f_M_readOne_49 (N : Nat) (iM : Nat → Int32) (aM : Nat → Nat → Int32)  : Option ((Nat → Int32) × (Nat → Nat → Int32)) := (f_M_misplaced ((iM 3)) ((iM 4)) ((iM 46)) ((iM 47))).bind fun q50 => (some ((us iM [(46, q50.1), (47, q50.2)]), aM))
def f_M_readOne (N : Nat) (iM : Nat → Int32) (aM : Nat → Nat → Int32) : Option ((Nat → Int32) × (Nat → Nat → Int32)) := (f_M_kept N ((iM 3)) ((iM 4)) ((iM 5)) ((aM 0)) ((aM 7))).bind fun q1 => ((f_M_isSignHere ((40 : Int32)) ((iM 3)) ((iM 6))).bind fun q8 => (if q8 = 0 then (if (iM 3) = (1 : Int32) then (if q1 < 0 then (f_M_readOne_54 N iM aM q1) else (if (5 : Int32) ≤ q1 then (f_M_readOne_54 N iM aM q1) else (f_M_readOne_49 N iM aM))) else (f_M_readOne_49 N iM aM)) else ((f_M_goesDeeper ((iM 4)) ((iM 46)) ((iM 47)) ((iM 49))).bind fun q15 => (if q15.1 = 0 then (some ((us iM [(46, q15.2.1), (47, q15.2.2.1), (49, q15.2.2.2)]), aM)) else ((f_M_wait ((1 : Int32)) ((-1 : Int32)) ((iM 54)) ((aM 52)) ((aM 53))).bind fun q24 => ((f_M_next N ((iM 1)) ((iM 2)) ((iM 3)) ((iM 4)) ((iM 5)) ((iM 6)) ((aM 0))).bind fun q28 => (some ((us iM [(2, q28.1), (3, q28.2.1), (4, q28.2.2.1), (5, q28.2.2.2.1), (6, q28.2.2.2.2), (46, q15.2.1), (47, q15.2.2.1), (49, q15.2.2.2), (54, q24.1)]), (us aM [(52, q24.2.1), (53, q24.2.2)])))))))))
set_option maxHeartbeats 8000000 in
set_option maxRecDepth 100000 in
theorem c_M_readOne (l : Launch) (dC : Nat → ClassId) (dI : Nat → Nat → Nat) (cy : Nat → ClassId) (ad : Nat → Nat) (sz : Nat) (N : Nat) (iM : Nat → Int32) (aM : Nat → Nat → Int32) (q : (Nat → Int32) × (Nat → Nat → Int32)) (h : f_M_readOne N iM aM = some q) : Met l yX8_readOne wsX8_readOne ({ frames := 4, cells := 0, slots := 0, locals := 93 } : Room) (cP (dC, dI) cy [.ref (ad 0)] (zzM ad cy iM aM) sz) (cQv (dC, dI) cy (zzM ad cy q.1 q.2) (va_A (zzM ad cy iM aM) sz)) 0 0 (va_A (zzM ad cy iM aM) sz) := by
  refine Met.ofW (cc := cX8_readOne) (maxL := 3) (ret := none) (by decide) rfl ?_
  intro p e s m args below meth c s₁ B hml hv
  obtain ⟨hav, hsz, hP, hK, hD0, hN⟩ := hv
  have hx := B.exec
  have hb := B.bytes
  have hr := B.returns
  have hts := atoms_spec (ws := wsX8_readOne) B.pre
  have hown : s.vm.findClass RX8 = some m.cls := findClass_of_methodNamed B.named
  have hlocks := B.notSynchronized
  subst hsz
  have hD := hD0.self (sz := s.heap.size)
  generalize hAe : va_A (zzM ad cy iM aM) s.heap.size = A at hD ⊢
  have hA : ∀ q : Nat, s.heap.size ≤ q → A q := fun q h => by rw [← hAe]; exact Or.inr h
  have hS : va_S A s.heap s.heap [] := va_S.rf
  generalize hWQ : (zzM ad cy q.1 q.2) = WQ
  generalize hQQ : MQ below (cQv (dC, dI) cy WQ A) args s 0 0 A = QQ
  have hl := lv_entry ([.ref (ad 0)] : List Value) (n := 3) (Nat.le_of_ble_eq_true rfl)
  have hfr := lg_entry_eq m ([.ref (ad 0)] : List Value) 3
  rw [← hav] at hfr
  rw [hfr]
  clear hfr hav
  generalize (lg_sl ([.ref (ad 0)] : List Value) ++ List.replicate (3 - (lg_sl ([.ref (ad 0)] : List Value)).length) Slot.unset).toArray = ls at hl ⊢
  have hl : lv_has ls 3 [(0, .ref (ad 0))] := hl
  have kf21 := hts _ (List.mem_cons_of_mem _ m_fl_X8_21)
  have ki8 := (fun w h => List.mem_cons_of_mem _ (i_X8 w h) : ∀ w ∈ u_ws RX8 TX8 78, w ∈ wsX8_readOne)
  have kf178 := hts _ (List.mem_cons_of_mem _ m_fl_X8_178)
  refine (?_ : ∀ (H : Heap) (locs : List Loc), va_P (dC, dI) vwCl (zzM ad cy iM aM) H → va_D A (zzM ad cy iM aM) → va_S A s.heap H locs → W p l e ({ frames := 4, cells := 0, slots := 0, locals := 93 } : Room) s m args below meth c H locs 0 0 QQ (F0 m 0 ls [])) s.heap [] hP hD hS
  clear hP hD hS
  have B166 : ∀ (v2 : Int32) (x_iM : Nat → Int32) (x_aM : Nat → Nat → Int32) (H : Heap) (locs : List Loc) (ls : Array Slot), f_M_readOne_166 N iM aM v2 x_iM x_aM = some q → va_P (dC, dI) vwCl (zzM ad cy x_iM x_aM) H → va_D A (zzM ad cy x_iM x_aM) → va_S A s.heap H locs → lv_has ls 3 [(0, .ref (ad 0)), (2, .int v2)] → W p l e ({ frames := 4, cells := 0, slots := 0, locals := 93 } : Room) s m args below meth c H locs 0 0 QQ (F0 m 166 ls []) := by
    intro v2 x_iM x_aM H locs ls h hP hD hS hl
    unfold f_M_readOne_166 at h
    refine lv_aload_n hx hb dX8_readOne_166 rfl (lv_at hl 0 rfl) ?_
    refine lv_iconst (v := 2) hx hb dX8_readOne_167 (by decide) ?_
    refine lv_iload_n hx hb dX8_readOne_168 rfl (lv_at hl 1 rfl) ?_
    obtain ⟨q169, e169, h⟩ := g_b h
    refine callVvs (cc := cX8_readOne) (w1 := zzM ad cy (us x_iM [(54, q169.1)]) (us x_aM [(52, q169.2.1), (53, q169.2.2)])) (As := [.int ((2 : Int32)), .int v2]) (rest := []) ⟨hx, hb, hml, hown, hts⟩ (c_M_wait l dC dI cy ad H.size ((2 : Int32)) v2 x_iM x_aM q169 e169) (cwV 2 hts (goodV m_ml_X8_270 m_im_X8_wait m_se_X8_wait m_in_X8 m_cd_X8_wait) rfl rfl rfl (by decide +kernel) ⟨Nat.le_of_ble_eq_true rfl, Nat.le_of_ble_eq_true rfl⟩) hN hK hP hD hS hA rfl 0 rfl rfl rfl hl.1 rfl (Nat.le_of_ble_eq_true rfl) dX8_readOne_169 ⟨Nat.zero_le _, Nat.zero_le _⟩ (fun H locs hP hD hS => ?_)
    have h' := Option.some.inj h
    rw [← hQQ]
    exact W.vret hx hb hr (fun t ht hW => ⟨⟨(), rfl, trivial, by rw [← hWQ, ← h', ht]; exact hP, va_K.moved hW.alike hK⟩, hS.F ht⟩) hS.2.2 dX8_readOne_172
  have B182 : ∀ (v2 : Int32) (x_iM : Nat → Int32) (x_aM : Nat → Nat → Int32) (H : Heap) (locs : List Loc) (ls : Array Slot), f_M_readOne_182 N iM aM v2 x_iM x_aM = some q → va_P (dC, dI) vwCl (zzM ad cy x_iM x_aM) H → va_D A (zzM ad cy x_iM x_aM) → va_S A s.heap H locs → lv_has ls 3 [(0, .ref (ad 0)), (2, .int v2)] → W p l e ({ frames := 4, cells := 0, slots := 0, locals := 93 } : Room) s m args below meth c H locs 0 0 QQ (F0 m 182 ls []) := by
    intro v2 x_iM x_aM H locs ls h hP hD hS hl
    unfold f_M_readOne_182 at h
    refine lv_aload_n hx hb dX8_readOne_182 rfl (lv_at hl 0 rfl) ?_
    obtain ⟨q183, e183, h⟩ := g_b h
    refine callVis (cc := cX8_readOne) (w1 := zzM ad cy x_iM x_aM) (As := []) (rest := []) ⟨hx, hb, hml, hown, hts⟩ (c_M_fine l dC dI cy ad H.size x_iM x_aM q183 e183) (cwV 0 hts (goodV m_ml_X8_198 m_im_X8_fine m_se_X8_fine m_in_X8 m_cd_X8_fine) rfl rfl rfl (by decide +kernel) ⟨Nat.le_of_ble_eq_true rfl, Nat.le_of_ble_eq_true rfl⟩) hN hK hP hD hS hA rfl 0 rfl rfl rfl hl.1 rfl (Nat.le_of_ble_eq_true rfl) dX8_readOne_183 ⟨Nat.zero_le _, Nat.zero_le _⟩ (fun H locs hP hD hS => ?_)
    refine lv_if_eq (tgt := 203) hx hb dX8_readOne_186 (by decide) (fun cz => ?_) (fun cz => ?_)
    · have h := g_t h cz
      have h' := Option.some.inj h
      rw [← hQQ]
      exact W.vret hx hb hr (fun t ht hW => ⟨⟨(), rfl, trivial, by rw [← hWQ, ← h', ht]; exact hP, va_K.moved hW.alike hK⟩, hS.F ht⟩) hS.2.2 dX8_readOne_203
    · have h := g_f h cz
      refine lv_aload_n hx hb dX8_readOne_189 rfl (lv_at hl 0 rfl) ?_
      refine lv_iload_n hx hb dX8_readOne_190 rfl (lv_at hl 1 rfl) ?_
      obtain ⟨q191, e191, h⟩ := g_b h
      refine callVvs (cc := cX8_readOne) (w1 := zzM ad cy (us x_iM [(39, q191.1)]) (us x_aM [(13, q191.2)])) (As := [.int v2]) (rest := []) ⟨hx, hb, hml, hown, hts⟩ (c_M_ended l dC dI cy ad H.size v2 x_iM x_aM q191 e191) (cwV 1 hts (goodV m_ml_X8_257 m_im_X8_ended m_se_X8_ended m_in_X8 m_cd_X8_ended) rfl rfl rfl (by decide +kernel) ⟨Nat.le_of_ble_eq_true rfl, Nat.le_of_ble_eq_true rfl⟩) hN hK hP hD hS hA rfl 0 rfl rfl rfl hl.1 rfl (Nat.le_of_ble_eq_true rfl) dX8_readOne_191 ⟨Nat.zero_le _, Nat.zero_le _⟩ (fun H locs hP hD hS => ?_)
      refine lv_aload_n hx hb dX8_readOne_194 rfl (lv_at hl 0 rfl) ?_
      obtain ⟨q195, e195, h⟩ := g_b h
      refine callVvs (cc := cX8_readOne) (w1 := zzM ad cy (us x_iM [(2, q195.1), (3, q195.2.1), (4, q195.2.2.1), (5, q195.2.2.2.1), (6, q195.2.2.2.2), (39, q191.1)]) (us x_aM [(13, q191.2)])) (As := []) (rest := []) ⟨hx, hb, hml, hown, hts⟩ (c_M_next l dC dI cy ad H.size N ((us x_iM [(39, q191.1)])) ((us x_aM [(13, q191.2)])) q195 e195) (cwV 0 hts (goodV m_ml_X8_205 m_im_X8_next m_se_X8_next m_in_X8 m_cd_X8_next) rfl rfl rfl (by decide +kernel) ⟨Nat.le_of_ble_eq_true rfl, Nat.le_of_ble_eq_true rfl⟩) hN hK hP hD hS hA rfl 0 rfl rfl rfl hl.1 rfl (Nat.le_of_ble_eq_true rfl) dX8_readOne_195 ⟨Nat.zero_le _, Nat.zero_le _⟩ (fun H locs hP hD hS => ?_)
      refine lv_aload_n hx hb dX8_readOne_198 rfl (lv_at hl 0 rfl) ?_
      refine lv_iload_n hx hb dX8_readOne_199 rfl (lv_at hl 1 rfl) ?_
      obtain ⟨q200, e200, h⟩ := g_b h
      refine callVvs (cc := cX8_readOne) (w1 := zzM ad cy q200.1 q200.2) (As := [.int v2]) (rest := []) ⟨hx, hb, hml, hown, hts⟩ (c_M_stand l dC dI cy ad H.size N v2 ((us x_iM [(2, q195.1), (3, q195.2.1), (4, q195.2.2.1), (5, q195.2.2.2.1), (6, q195.2.2.2.2), (39, q191.1)])) ((us x_aM [(13, q191.2)])) q200 e200) (cwV 1 hts (goodV m_ml_X8_283 m_im_X8_stand m_se_X8_stand m_in_X8 m_cd_X8_stand) rfl rfl rfl (by decide +kernel) ⟨Nat.le_of_ble_eq_true rfl, Nat.le_of_ble_eq_true rfl⟩) hN hK hP hD hS hA rfl 0 rfl rfl rfl hl.1 rfl (Nat.le_of_ble_eq_true rfl) dX8_readOne_200 ⟨Nat.zero_le _, Nat.zero_le _⟩ (fun H locs hP hD hS => ?_)
      have h' := Option.some.inj h
      rw [← hQQ]
      exact W.vret hx hb hr (fun t ht hW => ⟨⟨(), rfl, trivial, by rw [← hWQ, ← h', ht]; exact hP, va_K.moved hW.alike hK⟩, hS.F ht⟩) hS.2.2 dX8_readOne_203
  have B173 : ∀ (v1 : Int32) (v2 : Int32) (x_iM : Nat → Int32) (x_aM : Nat → Nat → Int32) (H : Heap) (locs : List Loc) (ls : Array Slot), f_M_readOne_173 N iM aM v1 v2 x_iM x_aM = some q → va_P (dC, dI) vwCl (zzM ad cy x_iM x_aM) H → va_D A (zzM ad cy x_iM x_aM) → va_S A s.heap H locs → lv_has ls 3 [(0, .ref (ad 0)), (1, .int v1), (2, .int v2)] → W p l e ({ frames := 4, cells := 0, slots := 0, locals := 93 } : Room) s m args below meth c H locs 0 0 QQ (F0 m 173 ls []) := by
    intro v1 v2 x_iM x_aM H locs ls h hP hD hS hl
    unfold f_M_readOne_173 at h
    refine lv_iload_n hx hb dX8_readOne_173 rfl (lv_at hl 1 rfl) ?_
    refine lv_if_ge (tgt := 182) hx hb dX8_readOne_174 (by decide) (fun cz => ?_) (fun cz => ?_)
    · have h := g_t h cz
      exact B182 v2 x_iM x_aM H locs ls h hP hD hS (lv_sub hl [0, 2] rfl)
    · have h := g_f h cz
      refine lv_aload_n hx hb dX8_readOne_177 rfl (lv_at hl 0 rfl) ?_
      refine lv_iload_n hx hb dX8_readOne_178 rfl (lv_at hl 2 rfl) ?_
      obtain ⟨q179, e179, h⟩ := g_b h
      refine callVvs (cc := cX8_readOne) (w1 := zzM ad cy (us x_iM [(43, q179.1), (45, q179.2.1), (46, q179.2.2.1), (47, q179.2.2.2.1)]) (us x_aM [(9, q179.2.2.2.2.1), (11, q179.2.2.2.2.2.1), (23, q179.2.2.2.2.2.2.1), (24, q179.2.2.2.2.2.2.2.1), (32, q179.2.2.2.2.2.2.2.2.1), (33, q179.2.2.2.2.2.2.2.2.2.1), (34, q179.2.2.2.2.2.2.2.2.2.2.1), (35, q179.2.2.2.2.2.2.2.2.2.2.2)])) (As := [.int v2]) (rest := []) ⟨hx, hb, hml, hown, hts⟩ (c_M_readName l dC dI cy ad H.size N v2 x_iM x_aM q179 e179) (cwV 1 hts (goodV m_ml_X8_280 m_im_X8_readName m_se_X8_readName m_in_X8 m_cd_X8_readName) rfl rfl rfl (by decide +kernel) ⟨Nat.le_of_ble_eq_true rfl, Nat.le_of_ble_eq_true rfl⟩) hN hK hP hD hS hA rfl 0 rfl rfl rfl hl.1 rfl (Nat.le_of_ble_eq_true rfl) dX8_readOne_179 ⟨Nat.zero_le _, Nat.zero_le _⟩ (fun H locs hP hD hS => ?_)
      exact B182 v2 ((us x_iM [(43, q179.1), (45, q179.2.1), (46, q179.2.2.1), (47, q179.2.2.2.1)])) ((us x_aM [(9, q179.2.2.2.2.1), (11, q179.2.2.2.2.2.1), (23, q179.2.2.2.2.2.2.1), (24, q179.2.2.2.2.2.2.2.1), (32, q179.2.2.2.2.2.2.2.2.1), (33, q179.2.2.2.2.2.2.2.2.2.1), (34, q179.2.2.2.2.2.2.2.2.2.2.1), (35, q179.2.2.2.2.2.2.2.2.2.2.2)])) H locs ls h hP hD hS (lv_sub hl [0, 2] rfl)
  have B105 : ∀ (v1 : Int32) (s1 : Int32) (H : Heap) (locs : List Loc) (ls : Array Slot), f_M_readOne_105 N iM aM v1 s1 = some q → va_P (dC, dI) vwCl (zzM ad cy iM aM) H → va_D A (zzM ad cy iM aM) → va_S A s.heap H locs → lv_has ls 3 [(0, .ref (ad 0)), (1, .int v1)] → W p l e ({ frames := 4, cells := 0, slots := 0, locals := 93 } : Room) s m args below meth c H locs 0 0 QQ (F0 m 105 ls [.int s1, .ref (ad 0)]) := by
    intro v1 s1 H locs ls h hP hD hS hl
    unfold f_M_readOne_105 at h
    obtain ⟨q105, e105, h⟩ := g_b h
    refine callVis (cc := cX8_readOne) (w1 := zzM ad cy (us iM [(38, q105.2.1), (46, q105.2.2.1), (47, q105.2.2.2.1)]) (us aM [(8, q105.2.2.2.2.1), (9, q105.2.2.2.2.2.1), (10, q105.2.2.2.2.2.2.1), (11, q105.2.2.2.2.2.2.2.1), (12, q105.2.2.2.2.2.2.2.2)])) (As := [.int s1]) (rest := []) ⟨hx, hb, hml, hown, hts⟩ (c_M_newNode l dC dI cy ad H.size s1 iM aM q105 e105) (cwV 1 hts (goodV m_ml_X8_273 m_im_X8_newNode m_se_X8_newNode m_in_X8 m_cd_X8_newNode) rfl rfl rfl (by decide +kernel) ⟨Nat.le_of_ble_eq_true rfl, Nat.le_of_ble_eq_true rfl⟩) hN hK hP hD hS hA rfl 0 rfl rfl rfl hl.1 rfl (Nat.le_of_ble_eq_true rfl) dX8_readOne_105 ⟨Nat.zero_le _, Nat.zero_le _⟩ (fun H locs hP hD hS => ?_)
    refine lv_istore_n (lv' := [(2, .int q105.1), (0, .ref (ad 0)), (1, .int v1)]) hx hb dX8_readOne_108 rfl hl (by decide) rfl (fun ls hl => ?_)
    refine lv_aload_n hx hb dX8_readOne_109 rfl (lv_at hl 1 rfl) ?_
    obtain ⟨q110, e110, h⟩ := g_b h
    refine callVis (cc := cX8_readOne) (w1 := zzM ad cy (us iM [(38, q105.2.1), (46, q105.2.2.1), (47, q105.2.2.2.1)]) (us aM [(8, q105.2.2.2.2.1), (9, q105.2.2.2.2.2.1), (10, q105.2.2.2.2.2.2.1), (11, q105.2.2.2.2.2.2.2.1), (12, q105.2.2.2.2.2.2.2.2)])) (As := []) (rest := []) ⟨hx, hb, hml, hown, hts⟩ (c_M_fine l dC dI cy ad H.size ((us iM [(38, q105.2.1), (46, q105.2.2.1), (47, q105.2.2.2.1)])) ((us aM [(8, q105.2.2.2.2.1), (9, q105.2.2.2.2.2.1), (10, q105.2.2.2.2.2.2.1), (11, q105.2.2.2.2.2.2.2.1), (12, q105.2.2.2.2.2.2.2.2)])) q110 e110) (cwV 0 hts (goodV m_ml_X8_198 m_im_X8_fine m_se_X8_fine m_in_X8 m_cd_X8_fine) rfl rfl rfl (by decide +kernel) ⟨Nat.le_of_ble_eq_true rfl, Nat.le_of_ble_eq_true rfl⟩) hN hK hP hD hS hA rfl 0 rfl rfl rfl hl.1 rfl (Nat.le_of_ble_eq_true rfl) dX8_readOne_110 ⟨Nat.zero_le _, Nat.zero_le _⟩ (fun H locs hP hD hS => ?_)
    refine lv_if_ne (tgt := 117) hx hb dX8_readOne_113 (by decide) (fun cz => ?_) (fun cz => ?_)
    · have h := g_f h cz
      refine lv_iload_n hx hb dX8_readOne_117 rfl (lv_at hl 2 rfl) ?_
      refine lv_iconst (v := 5) hx hb dX8_readOne_118 (by decide) ?_
      refine lv_icmp_lt (tgt := 173) hx hb dX8_readOne_119 (by decide) (fun cz => ?_) (fun cz => ?_)
      · have h := g_t h cz
        exact B173 v1 q105.1 ((us iM [(38, q105.2.1), (46, q105.2.2.1), (47, q105.2.2.2.1)])) ((us aM [(8, q105.2.2.2.2.1), (9, q105.2.2.2.2.2.1), (10, q105.2.2.2.2.2.2.1), (11, q105.2.2.2.2.2.2.2.1), (12, q105.2.2.2.2.2.2.2.2)])) H locs ls h hP hD hS (lv_sub hl [1, 2, 0] rfl)
      · have h := g_f h cz
        refine lv_iload_n hx hb dX8_readOne_122 rfl (lv_at hl 2 rfl) ?_
        refine lv_bipush (v := 7) hx hb dX8_readOne_123 (by decide) ?_
        refine lv_icmp_gt (tgt := 173) hx hb dX8_readOne_125 (by decide) (fun cz => ?_) (fun cz => ?_)
        · have h := g_t h cz
          exact B173 v1 q105.1 ((us iM [(38, q105.2.1), (46, q105.2.2.1), (47, q105.2.2.2.1)])) ((us aM [(8, q105.2.2.2.2.1), (9, q105.2.2.2.2.2.1), (10, q105.2.2.2.2.2.2.1), (11, q105.2.2.2.2.2.2.2.1), (12, q105.2.2.2.2.2.2.2.2)])) H locs ls h hP hD hS (lv_sub hl [1, 2, 0] rfl)
        · have h := g_f h cz
          refine lv_aload_n hx hb dX8_readOne_128 rfl (lv_at hl 1 rfl) ?_
          obtain ⟨q129, e129, h⟩ := g_b h
          refine callVis (cc := cX8_readOne) (w1 := zzM ad cy (us iM [(38, q105.2.1), (46, q129.2.1), (47, q129.2.2.1), (49, q129.2.2.2)]) (us aM [(8, q105.2.2.2.2.1), (9, q105.2.2.2.2.2.1), (10, q105.2.2.2.2.2.2.1), (11, q105.2.2.2.2.2.2.2.1), (12, q105.2.2.2.2.2.2.2.2)])) (As := []) (rest := []) ⟨hx, hb, hml, hown, hts⟩ (c_M_goesDeeper l dC dI cy ad H.size ((us iM [(38, q105.2.1), (46, q105.2.2.1), (47, q105.2.2.2.1)])) ((us aM [(8, q105.2.2.2.2.1), (9, q105.2.2.2.2.2.1), (10, q105.2.2.2.2.2.2.1), (11, q105.2.2.2.2.2.2.2.1), (12, q105.2.2.2.2.2.2.2.2)])) q129 e129) (cwV 0 hts (goodV m_ml_X8_267 m_im_X8_goesDeeper m_se_X8_goesDeeper m_in_X8 m_cd_X8_goesDeeper) rfl rfl rfl (by decide +kernel) ⟨Nat.le_of_ble_eq_true rfl, Nat.le_of_ble_eq_true rfl⟩) hN hK hP hD hS hA rfl 0 rfl rfl rfl hl.1 rfl (Nat.le_of_ble_eq_true rfl) dX8_readOne_129 ⟨Nat.zero_le _, Nat.zero_le _⟩ (fun H locs hP hD hS => ?_)
          refine lv_if_ne (tgt := 136) hx hb dX8_readOne_132 (by decide) (fun cz => ?_) (fun cz => ?_)
          · have h := g_f h cz
            refine lv_aload_n hx hb dX8_readOne_136 rfl (lv_at hl 1 rfl) ?_
            obtain ⟨q137, e137, h⟩ := g_b h
            refine callVvs (cc := cX8_readOne) (w1 := zzM ad cy (us iM [(2, q137.1), (3, q137.2.1), (4, q137.2.2.1), (5, q137.2.2.2.1), (6, q137.2.2.2.2), (38, q105.2.1), (46, q129.2.1), (47, q129.2.2.1), (49, q129.2.2.2)]) (us aM [(8, q105.2.2.2.2.1), (9, q105.2.2.2.2.2.1), (10, q105.2.2.2.2.2.2.1), (11, q105.2.2.2.2.2.2.2.1), (12, q105.2.2.2.2.2.2.2.2)])) (As := []) (rest := []) ⟨hx, hb, hml, hown, hts⟩ (c_M_next l dC dI cy ad H.size N ((us iM [(38, q105.2.1), (46, q129.2.1), (47, q129.2.2.1), (49, q129.2.2.2)])) ((us aM [(8, q105.2.2.2.2.1), (9, q105.2.2.2.2.2.1), (10, q105.2.2.2.2.2.2.1), (11, q105.2.2.2.2.2.2.2.1), (12, q105.2.2.2.2.2.2.2.2)])) q137 e137) (cwV 0 hts (goodV m_ml_X8_205 m_im_X8_next m_se_X8_next m_in_X8 m_cd_X8_next) rfl rfl rfl (by decide +kernel) ⟨Nat.le_of_ble_eq_true rfl, Nat.le_of_ble_eq_true rfl⟩) hN hK hP hD hS hA rfl 0 rfl rfl rfl hl.1 rfl (Nat.le_of_ble_eq_true rfl) dX8_readOne_137 ⟨Nat.zero_le _, Nat.zero_le _⟩ (fun H locs hP hD hS => ?_)
            refine lv_iload_n hx hb dX8_readOne_140 rfl (lv_at hl 2 rfl) ?_
            refine lv_iconst (v := 5) hx hb dX8_readOne_141 (by decide) ?_
            refine lv_icmp_eq (tgt := 166) hx hb dX8_readOne_142 (by decide) (fun cz => ?_) (fun cz => ?_)
            · have h := g_t h cz
              exact B166 q105.1 ((us iM [(2, q137.1), (3, q137.2.1), (4, q137.2.2.1), (5, q137.2.2.2.1), (6, q137.2.2.2.2), (38, q105.2.1), (46, q129.2.1), (47, q129.2.2.1), (49, q129.2.2.2)])) ((us aM [(8, q105.2.2.2.2.1), (9, q105.2.2.2.2.2.1), (10, q105.2.2.2.2.2.2.1), (11, q105.2.2.2.2.2.2.2.1), (12, q105.2.2.2.2.2.2.2.2)])) H locs ls h hP hD hS (lv_sub hl [1, 0] rfl)
            · have h := g_f h cz
              refine lv_aload_n hx hb dX8_readOne_145 rfl (lv_at hl 1 rfl) ?_
              refine va_get (D := (dC, dI)) (ci := 8) (v := .ref (ad 4)) (C := RX8) (T := TX8) (N := 78) hx hb hts ki8 hown hK hP 0 rfl rfl 9 (by decide) kf21 (fun _ h9 => h9) rfl dX8_readOne_146 ?_
              refine lv_iload_n hx hb dX8_readOne_149 rfl (lv_at hl 0 rfl) ?_
              refine lv_aload_n hx hb dX8_readOne_150 rfl (lv_at hl 1 rfl) ?_
              obtain ⟨q151, e151, h⟩ := g_b h
              refine callVis (cc := cX8_readOne) (w1 := zzM ad cy (us iM [(2, q137.1), (3, q137.2.1), (4, q137.2.2.1), (5, q137.2.2.2.1), (6, q137.2.2.2.2), (38, q105.2.1), (44, q151.2.1), (46, q151.2.2.1), (47, q151.2.2.2.1), (49, q129.2.2.2)]) (us aM [(8, q105.2.2.2.2.1), (9, q105.2.2.2.2.2.1), (10, q105.2.2.2.2.2.2.1), (11, q105.2.2.2.2.2.2.2.1), (12, q105.2.2.2.2.2.2.2.2), (26, q151.2.2.2.2.1), (27, q151.2.2.2.2.2.1), (29, q151.2.2.2.2.2.2.1), (31, q151.2.2.2.2.2.2.2)])) (As := []) (rest := [.int q105.1, .ref (ad 4)]) ⟨hx, hb, hml, hown, hts⟩ (c_M_readRole l dC dI cy ad H.size N ((us iM [(2, q137.1), (3, q137.2.1), (4, q137.2.2.1), (5, q137.2.2.2.1), (6, q137.2.2.2.2), (38, q105.2.1), (46, q129.2.1), (47, q129.2.2.1), (49, q129.2.2.2)])) ((us aM [(8, q105.2.2.2.2.1), (9, q105.2.2.2.2.2.1), (10, q105.2.2.2.2.2.2.1), (11, q105.2.2.2.2.2.2.2.1), (12, q105.2.2.2.2.2.2.2.2)])) q151 e151) (cwV 0 hts (goodV m_ml_X8_277 m_im_X8_readRole m_se_X8_readRole m_in_X8 m_cd_X8_readRole) rfl rfl rfl (by decide +kernel) ⟨Nat.le_of_ble_eq_true rfl, Nat.le_of_ble_eq_true rfl⟩) hN hK hP hD hS hA rfl 0 rfl rfl rfl hl.1 rfl (Nat.le_of_ble_eq_true rfl) dX8_readOne_151 ⟨Nat.zero_le _, Nat.zero_le _⟩ (fun H locs hP hD hS => ?_)
              obtain ⟨g_82, h⟩ := g_n h
              refine va_iast (f := q105.2.2.2.2.2.1) hx hb hK hP hD hS 4 0 rfl rfl g_82 dX8_readOne_154 (fun H locs hP hD hS => ?_)
              have hP : va_P (dC, dI) vwCl (zzM ad cy (us iM [(2, q137.1), (3, q137.2.1), (4, q137.2.2.1), (5, q137.2.2.2.1), (6, q137.2.2.2.2), (38, q105.2.1), (44, q151.2.1), (46, q151.2.2.1), (47, q151.2.2.2.1), (49, q129.2.2.2)]) (us aM [(8, q105.2.2.2.2.1), (9, (upd q105.2.2.2.2.2.1 q105.1.toNatClampNeg q151.1)), (10, q105.2.2.2.2.2.2.1), (11, q105.2.2.2.2.2.2.2.1), (12, q105.2.2.2.2.2.2.2.2), (26, q151.2.2.2.2.1), (27, q151.2.2.2.2.2.1), (29, q151.2.2.2.2.2.2.1), (31, q151.2.2.2.2.2.2.2)])) H := Eq.mp (congrArg (fun w => va_P (dC, dI) vwCl w H) (stM_aM9 ad cy (us iM [(2, q137.1), (3, q137.2.1), (4, q137.2.2.1), (5, q137.2.2.2.1), (6, q137.2.2.2.2), (38, q105.2.1), (44, q151.2.1), (46, q151.2.2.1), (47, q151.2.2.2.1), (49, q129.2.2.2)]) aM [(8, q105.2.2.2.2.1), (9, q105.2.2.2.2.2.1), (10, q105.2.2.2.2.2.2.1), (11, q105.2.2.2.2.2.2.2.1), (12, q105.2.2.2.2.2.2.2.2), (26, q151.2.2.2.2.1), (27, q151.2.2.2.2.2.1), (29, q151.2.2.2.2.2.2.1), (31, q151.2.2.2.2.2.2.2)] ((upd q105.2.2.2.2.2.1 q105.1.toNatClampNeg q151.1)))) hP
              have hD : va_D A (zzM ad cy (us iM [(2, q137.1), (3, q137.2.1), (4, q137.2.2.1), (5, q137.2.2.2.1), (6, q137.2.2.2.2), (38, q105.2.1), (44, q151.2.1), (46, q151.2.2.1), (47, q151.2.2.2.1), (49, q129.2.2.2)]) (us aM [(8, q105.2.2.2.2.1), (9, (upd q105.2.2.2.2.2.1 q105.1.toNatClampNeg q151.1)), (10, q105.2.2.2.2.2.2.1), (11, q105.2.2.2.2.2.2.2.1), (12, q105.2.2.2.2.2.2.2.2), (26, q151.2.2.2.2.1), (27, q151.2.2.2.2.2.1), (29, q151.2.2.2.2.2.2.1), (31, q151.2.2.2.2.2.2.2)])) := Eq.mp (congrArg (fun w => va_D A w) (stM_aM9 ad cy (us iM [(2, q137.1), (3, q137.2.1), (4, q137.2.2.1), (5, q137.2.2.2.1), (6, q137.2.2.2.2), (38, q105.2.1), (44, q151.2.1), (46, q151.2.2.1), (47, q151.2.2.2.1), (49, q129.2.2.2)]) aM [(8, q105.2.2.2.2.1), (9, q105.2.2.2.2.2.1), (10, q105.2.2.2.2.2.2.1), (11, q105.2.2.2.2.2.2.2.1), (12, q105.2.2.2.2.2.2.2.2), (26, q151.2.2.2.2.1), (27, q151.2.2.2.2.2.1), (29, q151.2.2.2.2.2.2.1), (31, q151.2.2.2.2.2.2.2)] ((upd q105.2.2.2.2.2.1 q105.1.toNatClampNeg q151.1)))) hD
              refine lv_aload_n hx hb dX8_readOne_155 rfl (lv_at hl 1 rfl) ?_
              obtain ⟨q156, e156, h⟩ := g_b h
              refine callVis (cc := cX8_readOne) (w1 := zzM ad cy (us iM [(2, q137.1), (3, q137.2.1), (4, q137.2.2.1), (5, q137.2.2.2.1), (6, q137.2.2.2.2), (38, q105.2.1), (44, q151.2.1), (46, q151.2.2.1), (47, q151.2.2.2.1), (49, q129.2.2.2)]) (us aM [(8, q105.2.2.2.2.1), (9, (upd q105.2.2.2.2.2.1 q105.1.toNatClampNeg q151.1)), (10, q105.2.2.2.2.2.2.1), (11, q105.2.2.2.2.2.2.2.1), (12, q105.2.2.2.2.2.2.2.2), (26, q151.2.2.2.2.1), (27, q151.2.2.2.2.2.1), (29, q151.2.2.2.2.2.2.1), (31, q151.2.2.2.2.2.2.2)])) (As := []) (rest := []) ⟨hx, hb, hml, hown, hts⟩ (c_M_fine l dC dI cy ad H.size ((us iM [(2, q137.1), (3, q137.2.1), (4, q137.2.2.1), (5, q137.2.2.2.1), (6, q137.2.2.2.2), (38, q105.2.1), (44, q151.2.1), (46, q151.2.2.1), (47, q151.2.2.2.1), (49, q129.2.2.2)])) ((us aM [(8, q105.2.2.2.2.1), (9, (upd q105.2.2.2.2.2.1 q105.1.toNatClampNeg q151.1)), (10, q105.2.2.2.2.2.2.1), (11, q105.2.2.2.2.2.2.2.1), (12, q105.2.2.2.2.2.2.2.2), (26, q151.2.2.2.2.1), (27, q151.2.2.2.2.2.1), (29, q151.2.2.2.2.2.2.1), (31, q151.2.2.2.2.2.2.2)])) q156 e156) (cwV 0 hts (goodV m_ml_X8_198 m_im_X8_fine m_se_X8_fine m_in_X8 m_cd_X8_fine) rfl rfl rfl (by decide +kernel) ⟨Nat.le_of_ble_eq_true rfl, Nat.le_of_ble_eq_true rfl⟩) hN hK hP hD hS hA rfl 0 rfl rfl rfl hl.1 rfl (Nat.le_of_ble_eq_true rfl) dX8_readOne_156 ⟨Nat.zero_le _, Nat.zero_le _⟩ (fun H locs hP hD hS => ?_)
              refine lv_if_eq (tgt := 166) hx hb dX8_readOne_159 (by decide) (fun cz => ?_) (fun cz => ?_)
              · have h := g_t h cz
                exact B166 q105.1 ((us iM [(2, q137.1), (3, q137.2.1), (4, q137.2.2.1), (5, q137.2.2.2.1), (6, q137.2.2.2.2), (38, q105.2.1), (44, q151.2.1), (46, q151.2.2.1), (47, q151.2.2.2.1), (49, q129.2.2.2)])) ((us aM [(8, q105.2.2.2.2.1), (9, (upd q105.2.2.2.2.2.1 q105.1.toNatClampNeg q151.1)), (10, q105.2.2.2.2.2.2.1), (11, q105.2.2.2.2.2.2.2.1), (12, q105.2.2.2.2.2.2.2.2), (26, q151.2.2.2.2.1), (27, q151.2.2.2.2.2.1), (29, q151.2.2.2.2.2.2.1), (31, q151.2.2.2.2.2.2.2)])) H locs ls h hP hD hS (lv_sub hl [1, 0] rfl)
              · have h := g_f h cz
                refine lv_aload_n hx hb dX8_readOne_162 rfl (lv_at hl 1 rfl) ?_
                obtain ⟨q163, e163, h⟩ := g_b h
                refine callVvs (cc := cX8_readOne) (w1 := zzM ad cy (us iM [(2, q163.1), (3, q163.2.1), (4, q163.2.2.1), (5, q163.2.2.2.1), (6, q163.2.2.2.2), (38, q105.2.1), (44, q151.2.1), (46, q151.2.2.1), (47, q151.2.2.2.1), (49, q129.2.2.2)]) (us aM [(8, q105.2.2.2.2.1), (9, (upd q105.2.2.2.2.2.1 q105.1.toNatClampNeg q151.1)), (10, q105.2.2.2.2.2.2.1), (11, q105.2.2.2.2.2.2.2.1), (12, q105.2.2.2.2.2.2.2.2), (26, q151.2.2.2.2.1), (27, q151.2.2.2.2.2.1), (29, q151.2.2.2.2.2.2.1), (31, q151.2.2.2.2.2.2.2)])) (As := []) (rest := []) ⟨hx, hb, hml, hown, hts⟩ (c_M_next l dC dI cy ad H.size N ((us iM [(2, q137.1), (3, q137.2.1), (4, q137.2.2.1), (5, q137.2.2.2.1), (6, q137.2.2.2.2), (38, q105.2.1), (44, q151.2.1), (46, q151.2.2.1), (47, q151.2.2.2.1), (49, q129.2.2.2)])) ((us aM [(8, q105.2.2.2.2.1), (9, (upd q105.2.2.2.2.2.1 q105.1.toNatClampNeg q151.1)), (10, q105.2.2.2.2.2.2.1), (11, q105.2.2.2.2.2.2.2.1), (12, q105.2.2.2.2.2.2.2.2), (26, q151.2.2.2.2.1), (27, q151.2.2.2.2.2.1), (29, q151.2.2.2.2.2.2.1), (31, q151.2.2.2.2.2.2.2)])) q163 e163) (cwV 0 hts (goodV m_ml_X8_205 m_im_X8_next m_se_X8_next m_in_X8 m_cd_X8_next) rfl rfl rfl (by decide +kernel) ⟨Nat.le_of_ble_eq_true rfl, Nat.le_of_ble_eq_true rfl⟩) hN hK hP hD hS hA rfl 0 rfl rfl rfl hl.1 rfl (Nat.le_of_ble_eq_true rfl) dX8_readOne_163 ⟨Nat.zero_le _, Nat.zero_le _⟩ (fun H locs hP hD hS => ?_)
                exact B166 q105.1 ((us iM [(2, q163.1), (3, q163.2.1), (4, q163.2.2.1), (5, q163.2.2.2.1), (6, q163.2.2.2.2), (38, q105.2.1), (44, q151.2.1), (46, q151.2.2.1), (47, q151.2.2.2.1), (49, q129.2.2.2)])) ((us aM [(8, q105.2.2.2.2.1), (9, (upd q105.2.2.2.2.2.1 q105.1.toNatClampNeg q151.1)), (10, q105.2.2.2.2.2.2.1), (11, q105.2.2.2.2.2.2.2.1), (12, q105.2.2.2.2.2.2.2.2), (26, q151.2.2.2.2.1), (27, q151.2.2.2.2.2.1), (29, q151.2.2.2.2.2.2.1), (31, q151.2.2.2.2.2.2.2)])) H locs ls h hP hD hS (lv_sub hl [1, 0] rfl)
          · have h := g_t h cz
            have h' := Option.some.inj h
            rw [← hQQ]
            exact W.vret hx hb hr (fun t ht hW => ⟨⟨(), rfl, trivial, by rw [← hWQ, ← h', ht]; exact hP, va_K.moved hW.alike hK⟩, hS.F ht⟩) hS.2.2 dX8_readOne_135
    · have h := g_t h cz
      have h' := Option.some.inj h
      rw [← hQQ]
      exact W.vret hx hb hr (fun t ht hW => ⟨⟨(), rfl, trivial, by rw [← hWQ, ← h', ht]; exact hP, va_K.moved hW.alike hK⟩, hS.F ht⟩) hS.2.2 dX8_readOne_116
  have B54 : ∀ (v1 : Int32) (H : Heap) (locs : List Loc) (ls : Array Slot), f_M_readOne_54 N iM aM v1 = some q → va_P (dC, dI) vwCl (zzM ad cy iM aM) H → va_D A (zzM ad cy iM aM) → va_S A s.heap H locs → lv_has ls 3 [(0, .ref (ad 0)), (1, .int v1)] → W p l e ({ frames := 4, cells := 0, slots := 0, locals := 93 } : Room) s m args below meth c H locs 0 0 QQ (F0 m 54 ls []) := by
    intro v1 H locs ls h hP hD hS hl
    unfold f_M_readOne_54 at h
    refine lv_aload_n hx hb dX8_readOne_54 rfl (lv_at hl 0 rfl) ?_
    refine lv_iload_n hx hb dX8_readOne_55 rfl (lv_at hl 1 rfl) ?_
    refine lv_iconst (v := 5) hx hb dX8_readOne_56 (by decide) ?_
    refine lv_icmp_ne (tgt := 64) hx hb dX8_readOne_57 (by decide) (fun cz => ?_) (fun cz => ?_)
    · have h := g_f h cz
      refine lv_iload_n hx hb dX8_readOne_64 rfl (lv_at hl 1 rfl) ?_
      refine lv_bipush (v := 6) hx hb dX8_readOne_65 (by decide) ?_
      refine lv_icmp_ne (tgt := 74) hx hb dX8_readOne_67 (by decide) (fun cz => ?_) (fun cz => ?_)
      · have h := g_f h cz
        refine lv_iload_n hx hb dX8_readOne_74 rfl (lv_at hl 1 rfl) ?_
        refine lv_bipush (v := 7) hx hb dX8_readOne_75 (by decide) ?_
        refine lv_icmp_ne (tgt := 84) hx hb dX8_readOne_77 (by decide) (fun cz => ?_) (fun cz => ?_)
        · have h := g_f h cz
          refine lv_iload_n hx hb dX8_readOne_84 rfl (lv_at hl 1 rfl) ?_
          refine lv_bipush (v := 8) hx hb dX8_readOne_85 (by decide) ?_
          refine lv_icmp_ne (tgt := 94) hx hb dX8_readOne_87 (by decide) (fun cz => ?_) (fun cz => ?_)
          · have h := g_f h cz
            refine lv_iload_n hx hb dX8_readOne_94 rfl (lv_at hl 1 rfl) ?_
            refine lv_bipush (v := 9) hx hb dX8_readOne_95 (by decide) ?_
            refine lv_icmp_ne (tgt := 104) hx hb dX8_readOne_97 (by decide) (fun cz => ?_) (fun cz => ?_)
            · have h := g_f h cz
              refine lv_iconst (v := 0) hx hb dX8_readOne_104 (by decide) ?_
              exact B105 v1 ((0 : Int32)) H locs ls h hP hD hS (lv_sub hl [0, 1] rfl)
            · have h := g_t h cz
              refine lv_iconst (v := 2) hx hb dX8_readOne_100 (by decide) ?_
              refine lv_goto (tgt := 105) hx hb dX8_readOne_101 (by decide) ?_
              exact B105 v1 ((2 : Int32)) H locs ls h hP hD hS (lv_sub hl [0, 1] rfl)
          · have h := g_t h cz
            refine lv_iconst (v := 1) hx hb dX8_readOne_90 (by decide) ?_
            refine lv_goto (tgt := 105) hx hb dX8_readOne_91 (by decide) ?_
            exact B105 v1 ((1 : Int32)) H locs ls h hP hD hS (lv_sub hl [0, 1] rfl)
        · have h := g_t h cz
          refine lv_iconst (v := 5) hx hb dX8_readOne_80 (by decide) ?_
          refine lv_goto (tgt := 105) hx hb dX8_readOne_81 (by decide) ?_
          exact B105 v1 ((5 : Int32)) H locs ls h hP hD hS (lv_sub hl [0, 1] rfl)
      · have h := g_t h cz
        refine lv_iconst (v := 4) hx hb dX8_readOne_70 (by decide) ?_
        refine lv_goto (tgt := 105) hx hb dX8_readOne_71 (by decide) ?_
        exact B105 v1 ((4 : Int32)) H locs ls h hP hD hS (lv_sub hl [0, 1] rfl)
    · have h := g_t h cz
      refine lv_iconst (v := 3) hx hb dX8_readOne_60 (by decide) ?_
      refine lv_goto (tgt := 105) hx hb dX8_readOne_61 (by decide) ?_
      exact B105 v1 ((3 : Int32)) H locs ls h hP hD hS (lv_sub hl [0, 1] rfl)
  have B49 : ∀  (H : Heap) (locs : List Loc) (ls : Array Slot), f_M_readOne_49 N iM aM = some q → va_P (dC, dI) vwCl (zzM ad cy iM aM) H → va_D A (zzM ad cy iM aM) → va_S A s.heap H locs → lv_has ls 3 [(0, .ref (ad 0))] → W p l e ({ frames := 4, cells := 0, slots := 0, locals := 93 } : Room) s m args below meth c H locs 0 0 QQ (F0 m 49 ls []) := by
    intro H locs ls h hP hD hS hl
    unfold f_M_readOne_49 at h
    refine lv_aload_n hx hb dX8_readOne_49 rfl (lv_at hl 0 rfl) ?_
    obtain ⟨q50, e50, h⟩ := g_b h
    refine callVvs (cc := cX8_readOne) (w1 := zzM ad cy (us iM [(46, q50.1), (47, q50.2)]) aM) (As := []) (rest := []) ⟨hx, hb, hml, hown, hts⟩ (c_M_misplaced l dC dI cy ad H.size iM aM q50 e50) (cwV 0 hts (goodV m_ml_X8_208 m_im_X8_misplaced m_se_X8_misplaced m_in_X8 m_cd_X8_misplaced) rfl rfl rfl (by decide +kernel) ⟨Nat.le_of_ble_eq_true rfl, Nat.le_of_ble_eq_true rfl⟩) hN hK hP hD hS hA rfl 0 rfl rfl rfl hl.1 rfl (Nat.le_of_ble_eq_true rfl) dX8_readOne_50 ⟨Nat.zero_le _, Nat.zero_le _⟩ (fun H locs hP hD hS => ?_)
    have h' := Option.some.inj h
    rw [← hQQ]
    exact W.vret hx hb hr (fun t ht hW => ⟨⟨(), rfl, trivial, by rw [← hWQ, ← h', ht]; exact hP, va_K.moved hW.alike hK⟩, hS.F ht⟩) hS.2.2 dX8_readOne_53
  intro H locs hP hD hS
  unfold f_M_readOne at h
  refine lv_aload_n hx hb dX8_readOne_0 rfl (lv_at hl 0 rfl) ?_
  obtain ⟨q1, e1, h⟩ := g_b h
  refine callVis (cc := cX8_readOne) (w1 := zzM ad cy iM aM) (As := []) (rest := []) ⟨hx, hb, hml, hown, hts⟩ (c_M_kept l dC dI cy ad H.size N iM aM q1 e1) (cwV 0 hts (goodV m_ml_X8_224 m_im_X8_kept m_se_X8_kept m_in_X8 m_cd_X8_kept) rfl rfl rfl (by decide +kernel) ⟨Nat.le_of_ble_eq_true rfl, Nat.le_of_ble_eq_true rfl⟩) hN hK hP hD hS hA rfl 0 rfl rfl rfl hl.1 rfl (Nat.le_of_ble_eq_true rfl) dX8_readOne_1 ⟨Nat.zero_le _, Nat.zero_le _⟩ (fun H locs hP hD hS => ?_)
  refine lv_istore_n (lv' := [(1, .int q1), (0, .ref (ad 0))]) hx hb dX8_readOne_4 rfl hl (by decide) rfl (fun ls hl => ?_)
  refine lv_aload_n hx hb dX8_readOne_5 rfl (lv_at hl 1 rfl) ?_
  refine lv_bipush (v := 40) hx hb dX8_readOne_6 (by decide) ?_
  obtain ⟨q8, e8, h⟩ := g_b h
  refine callVis (cc := cX8_readOne) (w1 := zzM ad cy iM aM) (As := [.int ((40 : Int32))]) (rest := []) ⟨hx, hb, hml, hown, hts⟩ (c_M_isSignHere l dC dI cy ad H.size ((40 : Int32)) iM aM q8 e8) (cwV 1 hts (goodV m_ml_X8_202 m_im_X8_isSignHere m_se_X8_isSignHere m_in_X8 m_cd_X8_isSignHere) rfl rfl rfl (by decide +kernel) ⟨Nat.le_of_ble_eq_true rfl, Nat.le_of_ble_eq_true rfl⟩) hN hK hP hD hS hA rfl 0 rfl rfl rfl hl.1 rfl (Nat.le_of_ble_eq_true rfl) dX8_readOne_8 ⟨Nat.zero_le _, Nat.zero_le _⟩ (fun H locs hP hD hS => ?_)
  refine lv_if_eq (tgt := 32) hx hb dX8_readOne_11 (by decide) (fun cz => ?_) (fun cz => ?_)
  · have h := g_t h cz
    refine lv_aload_n hx hb dX8_readOne_32 rfl (lv_at hl 1 rfl) ?_
    refine va_get (D := (dC, dI)) (ci := 8) (v := .int ((iM 3))) (C := RX8) (T := TX8) (N := 78) hx hb hts ki8 hown hK hP 0 rfl rfl 3 (by decide) kf178 (fun _ h9 => h9) rfl dX8_readOne_33 ?_
    refine lv_iconst (v := 1) hx hb dX8_readOne_36 (by decide) ?_
    refine lv_icmp_ne (tgt := 49) hx hb dX8_readOne_37 (by decide) (fun cz => ?_) (fun cz => ?_)
    · have h := g_f h cz
      exact B49 H locs ls h hP hD hS (lv_sub hl [1] rfl)
    · have h := g_t h cz
      refine lv_iload_n hx hb dX8_readOne_40 rfl (lv_at hl 0 rfl) ?_
      refine lv_if_lt (tgt := 54) hx hb dX8_readOne_41 (by decide) (fun cz => ?_) (fun cz => ?_)
      · have h := g_t h cz
        exact B54 q1 H locs ls h hP hD hS (lv_sub hl [1, 0] rfl)
      · have h := g_f h cz
        refine lv_iload_n hx hb dX8_readOne_44 rfl (lv_at hl 0 rfl) ?_
        refine lv_iconst (v := 5) hx hb dX8_readOne_45 (by decide) ?_
        refine lv_icmp_ge (tgt := 54) hx hb dX8_readOne_46 (by decide) (fun cz => ?_) (fun cz => ?_)
        · have h := g_t h cz
          exact B54 q1 H locs ls h hP hD hS (lv_sub hl [1, 0] rfl)
        · have h := g_f h cz
          exact B49 H locs ls h hP hD hS (lv_sub hl [1] rfl)
  · have h := g_f h cz
    refine lv_aload_n hx hb dX8_readOne_14 rfl (lv_at hl 1 rfl) ?_
    obtain ⟨q15, e15, h⟩ := g_b h
    refine callVis (cc := cX8_readOne) (w1 := zzM ad cy (us iM [(46, q15.2.1), (47, q15.2.2.1), (49, q15.2.2.2)]) aM) (As := []) (rest := []) ⟨hx, hb, hml, hown, hts⟩ (c_M_goesDeeper l dC dI cy ad H.size iM aM q15 e15) (cwV 0 hts (goodV m_ml_X8_267 m_im_X8_goesDeeper m_se_X8_goesDeeper m_in_X8 m_cd_X8_goesDeeper) rfl rfl rfl (by decide +kernel) ⟨Nat.le_of_ble_eq_true rfl, Nat.le_of_ble_eq_true rfl⟩) hN hK hP hD hS hA rfl 0 rfl rfl rfl hl.1 rfl (Nat.le_of_ble_eq_true rfl) dX8_readOne_15 ⟨Nat.zero_le _, Nat.zero_le _⟩ (fun H locs hP hD hS => ?_)
    refine lv_if_eq (tgt := 31) hx hb dX8_readOne_18 (by decide) (fun cz => ?_) (fun cz => ?_)
    · have h := g_t h cz
      have h' := Option.some.inj h
      rw [← hQQ]
      exact W.vret hx hb hr (fun t ht hW => ⟨⟨(), rfl, trivial, by rw [← hWQ, ← h', ht]; exact hP, va_K.moved hW.alike hK⟩, hS.F ht⟩) hS.2.2 dX8_readOne_31
    · have h := g_f h cz
      refine lv_aload_n hx hb dX8_readOne_21 rfl (lv_at hl 1 rfl) ?_
      refine lv_iconst (v := 1) hx hb dX8_readOne_22 (by decide) ?_
      refine lv_iconst (v := (-1)) hx hb dX8_readOne_23 (by decide) ?_
      obtain ⟨q24, e24, h⟩ := g_b h
      refine callVvs (cc := cX8_readOne) (w1 := zzM ad cy (us iM [(46, q15.2.1), (47, q15.2.2.1), (49, q15.2.2.2), (54, q24.1)]) (us aM [(52, q24.2.1), (53, q24.2.2)])) (As := [.int ((1 : Int32)), .int ((-1 : Int32))]) (rest := []) ⟨hx, hb, hml, hown, hts⟩ (c_M_wait l dC dI cy ad H.size ((1 : Int32)) ((-1 : Int32)) ((us iM [(46, q15.2.1), (47, q15.2.2.1), (49, q15.2.2.2)])) aM q24 e24) (cwV 2 hts (goodV m_ml_X8_270 m_im_X8_wait m_se_X8_wait m_in_X8 m_cd_X8_wait) rfl rfl rfl (by decide +kernel) ⟨Nat.le_of_ble_eq_true rfl, Nat.le_of_ble_eq_true rfl⟩) hN hK hP hD hS hA rfl 0 rfl rfl rfl hl.1 rfl (Nat.le_of_ble_eq_true rfl) dX8_readOne_24 ⟨Nat.zero_le _, Nat.zero_le _⟩ (fun H locs hP hD hS => ?_)
      refine lv_aload_n hx hb dX8_readOne_27 rfl (lv_at hl 1 rfl) ?_
      obtain ⟨q28, e28, h⟩ := g_b h
      refine callVvs (cc := cX8_readOne) (w1 := zzM ad cy (us iM [(2, q28.1), (3, q28.2.1), (4, q28.2.2.1), (5, q28.2.2.2.1), (6, q28.2.2.2.2), (46, q15.2.1), (47, q15.2.2.1), (49, q15.2.2.2), (54, q24.1)]) (us aM [(52, q24.2.1), (53, q24.2.2)])) (As := []) (rest := []) ⟨hx, hb, hml, hown, hts⟩ (c_M_next l dC dI cy ad H.size N ((us iM [(46, q15.2.1), (47, q15.2.2.1), (49, q15.2.2.2), (54, q24.1)])) ((us aM [(52, q24.2.1), (53, q24.2.2)])) q28 e28) (cwV 0 hts (goodV m_ml_X8_205 m_im_X8_next m_se_X8_next m_in_X8 m_cd_X8_next) rfl rfl rfl (by decide +kernel) ⟨Nat.le_of_ble_eq_true rfl, Nat.le_of_ble_eq_true rfl⟩) hN hK hP hD hS hA rfl 0 rfl rfl rfl hl.1 rfl (Nat.le_of_ble_eq_true rfl) dX8_readOne_28 ⟨Nat.zero_le _, Nat.zero_le _⟩ (fun H locs hP hD hS => ?_)
      have h' := Option.some.inj h
      rw [← hQQ]
      exact W.vret hx hb hr (fun t ht hW => ⟨⟨(), rfl, trivial, by rw [← hWQ, ← h', ht]; exact hP, va_K.moved hW.alike hK⟩, hS.F ht⟩) hS.2.2 dX8_readOne_31
