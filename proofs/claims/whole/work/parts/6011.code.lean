set_option maxHeartbeats 8000000 in
set_option maxRecDepth 100000 in
theorem c_M_readOne (l : Launch) (dC : Nat → ClassId) (dI : Nat → Nat → Nat) (cy : Nat → ClassId) (ad : Nat → Nat) (sz : Nat) (N : Nat) (iM : Nat → Int32) (aM : Nat → Nat → Int32) (q : (Nat → Int32) × (Nat → Nat → Int32)) (h : f_M_readOne N iM aM = some q) : Met l yX8_readOne wsX8_readOne ({ frames := 4, cells := 0, slots := 0, locals := 93 } : Room) (cP (dC, dI) cy [.ref (ad 0)] (zzM ad cy iM aM) sz) (cQv (dC, dI) cy (zzM ad cy q.1 q.2) (va_A (zzM ad cy iM aM) sz)) 0 0 (va_A (zzM ad cy iM aM) sz) := by
  refine Met.ofW (cc := cX8_readOne) (maxL := 3) (ret := none) (by decide) rfl ?_
  intro p e s m args below meth c s₁ B hml hv
  obtain ⟨hav, hsz, hP, hK, hD0, hN⟩ := hv
  have hx := B.exec
  have hb := B.bytes
  have hr := B.returns
  have hts := atoms_spec (ws := wsX8_readOne) B.pre
  have hown : s.vm.findClass RX8 = some m.cls := findClass_of_methodNamed B.named
  have hlocks := B.notSynchronized
  subst hsz
  have hD := hD0.self (sz := s.heap.size)
  generalize hAe : va_A (zzM ad cy iM aM) s.heap.size = A at hD ⊢
  have hA : ∀ q : Nat, s.heap.size ≤ q → A q := fun q h => by rw [← hAe]; exact Or.inr h
  have hS : va_S A s.heap s.heap [] := va_S.rf
  generalize hWQ : (zzM ad cy q.1 q.2) = WQ
  generalize hQQ : MQ below (cQv (dC, dI) cy WQ A) args s 0 0 A = QQ
  have hl := lv_entry ([.ref (ad 0)] : List Value) (n := 3) (Nat.le_of_ble_eq_true rfl)
  have hfr := lg_entry_eq m ([.ref (ad 0)] : List Value) 3
  rw [← hav] at hfr
  rw [hfr]
  clear hfr hav
  generalize (lg_sl ([.ref (ad 0)] : List Value) ++ List.replicate (3 - (lg_sl ([.ref (ad 0)] : List Value)).length) Slot.unset).toArray = ls at hl ⊢
  have hl : lv_has ls 3 [(0, .ref (ad 0))] := hl
  have kf21 := hts _ (List.mem_cons_of_mem _ m_fl_X8_21)
  have ki8 := (fun w h => List.mem_cons_of_mem _ (i_X8 w h) : ∀ w ∈ u_ws RX8 TX8 78, w ∈ wsX8_readOne)
  have kf178 := hts _ (List.mem_cons_of_mem _ m_fl_X8_178)
  refine (?_ : ∀ (H : Heap) (locs : List Loc), va_P (dC, dI) vwCl (zzM ad cy iM aM) H → va_D A (zzM ad cy iM aM) → va_S A s.heap H locs → W p l e ({ frames := 4, cells := 0, slots := 0, locals := 93 } : Room) s m args below meth c H locs 0 0 QQ (F0 m 0 ls [])) s.heap [] hP hD hS
  clear hP hD hS
  have B166 : ∀ (v2 : Int32) (x_iM : Nat → Int32) (x_aM : Nat → Nat → Int32) (H : Heap) (locs : List Loc) (ls : Array Slot), f_M_readOne_166 N iM aM v2 x_iM x_aM = some q → va_P (dC, dI) vwCl (zzM ad cy x_iM x_aM) H → va_D A (zzM ad cy x_iM x_aM) → va_S A s.heap H locs → lv_has ls 3 [(0, .ref (ad 0)), (2, .int v2)] → W p l e ({ frames := 4, cells := 0, slots := 0, locals := 93 } : Room) s m args below meth c H locs 0 0 QQ (F0 m 166 ls []) := by
    intro v2 x_iM x_aM H locs ls h hP hD hS hl
    unfold f_M_readOne_166 at h
    refine lv_aload_n hx hb dX8_readOne_166 rfl (lv_at hl 0 rfl) ?_
    refine lv_iconst (v := 2) hx hb dX8_readOne_167 (by decide) ?_
    refine lv_iload_n hx hb dX8_readOne_168 rfl (lv_at hl 1 rfl) ?_
    obtain ⟨q169, e169, h⟩ := g_b h
    refine callVvs (cc := cX8_readOne) (w1 := zzM ad cy (us x_iM [(54, q169.1)]) (us x_aM [(52, q169.2.1), (53, q169.2.2)])) (As := [.int ((2 : Int32)), .int v2]) (rest := []) ⟨hx, hb, hml, hown, hts⟩ (c_M_wait l dC dI cy ad H.size ((2 : Int32)) v2 x_iM x_aM q169 e169) (cwV 2 hts (goodV m_ml_X8_270 m_im_X8_wait m_se_X8_wait m_in_X8 m_cd_X8_wait) rfl rfl rfl (by decide +kernel) ⟨Nat.le_of_ble_eq_true rfl, Nat.le_of_ble_eq_true rfl⟩) hN hK hP hD hS hA rfl 0 rfl rfl rfl hl.1 rfl (Nat.le_of_ble_eq_true rfl) dX8_readOne_169 ⟨Nat.zero_le _, Nat.zero_le _⟩ (fun H locs hP hD hS => ?_)
    have h' := Option.some.inj h
    rw [← hQQ]
    exact W.vret hx hb hr (fun t ht hW => ⟨⟨(), rfl, trivial, by rw [← hWQ, ← h', ht]; exact hP, va_K.moved hW.alike hK⟩, hS.F ht⟩) hS.2.2 dX8_readOne_172
  have B182 : ∀ (v2 : Int32) (x_iM : Nat → Int32) (x_aM : Nat → Nat → Int32) (H : Heap) (locs : List Loc) (ls : Array Slot), f_M_readOne_182 N iM aM v2 x_iM x_aM = some q → va_P (dC, dI) vwCl (zzM ad cy x_iM x_aM) H → va_D A (zzM ad cy x_iM x_aM) → va_S A s.heap H locs → lv_has ls 3 [(0, .ref (ad 0)), (2, .int v2)] → W p l e ({ frames := 4, cells := 0, slots := 0, locals := 93 } : Room) s m args below meth c H locs 0 0 QQ (F0 m 182 ls []) := by
    intro v2 x_iM x_aM H locs ls h hP hD hS hl
    unfold f_M_readOne_182 at h
    refine lv_aload_n hx hb dX8_readOne_182 rfl (lv_at hl 0 rfl) ?_
    obtain ⟨q183, e183, h⟩ := g_b h
    refine callVis (cc := cX8_readOne) (w1 := zzM ad cy x_iM x_aM) (As := []) (rest := []) ⟨hx, hb, hml, hown, hts⟩ (c_M_fine l dC dI cy ad H.size x_iM x_aM q183 e183) (cwV 0 hts (goodV m_ml_X8_198 m_im_X8_fine m_se_X8_fine m_in_X8 m_cd_X8_fine) rfl rfl rfl (by decide +kernel) ⟨Nat.le_of_ble_eq_true rfl, Nat.le_of_ble_eq_true rfl⟩) hN hK hP hD hS hA rfl 0 rfl rfl rfl hl.1 rfl (Nat.le_of_ble_eq_true rfl) dX8_readOne_183 ⟨Nat.zero_le _, Nat.zero_le _⟩ (fun H locs hP hD hS => ?_)
    refine lv_if_eq (tgt := 203) hx hb dX8_readOne_186 (by decide) (fun cz => ?_) (fun cz => ?_)
    · have h := g_t h cz
      have h' := Option.some.inj h
      rw [← hQQ]
      exact W.vret hx hb hr (fun t ht hW => ⟨⟨(), rfl, trivial, by rw [← hWQ, ← h', ht]; exact hP, va_K.moved hW.alike hK⟩, hS.F ht⟩) hS.2.2 dX8_readOne_203
    · have h := g_f h cz
      refine lv_aload_n hx hb dX8_readOne_189 rfl (lv_at hl 0 rfl) ?_
      refine lv_iload_n hx hb dX8_readOne_190 rfl (lv_at hl 1 rfl) ?_
      obtain ⟨q191, e191, h⟩ := g_b h
      refine callVvs (cc := cX8_readOne) (w1 := zzM ad cy (us x_iM [(39, q191.1)]) (us x_aM [(13, q191.2)])) (As := [.int v2]) (rest := []) ⟨hx, hb, hml, hown, hts⟩ (c_M_ended l dC dI cy ad H.size v2 x_iM x_aM q191 e191) (cwV 1 hts (goodV m_ml_X8_257 m_im_X8_ended m_se_X8_ended m_in_X8 m_cd_X8_ended) rfl rfl rfl (by decide +kernel) ⟨Nat.le_of_ble_eq_true rfl, Nat.le_of_ble_eq_true rfl⟩) hN hK hP hD hS hA rfl 0 rfl rfl rfl hl.1 rfl (Nat.le_of_ble_eq_true rfl) dX8_readOne_191 ⟨Nat.zero_le _, Nat.zero_le _⟩ (fun H locs hP hD hS => ?_)
      refine lv_aload_n hx hb dX8_readOne_194 rfl (lv_at hl 0 rfl) ?_
      obtain ⟨q195, e195, h⟩ := g_b h
      refine callVvs (cc := cX8_readOne) (w1 := zzM ad cy (us x_iM [(2, q195.1), (3, q195.2.1), (4, q195.2.2.1), (5, q195.2.2.2.1), (6, q195.2.2.2.2), (39, q191.1)]) (us x_aM [(13, q191.2)])) (As := []) (rest := []) ⟨hx, hb, hml, hown, hts⟩ (c_M_next l dC dI cy ad H.size N ((us x_iM [(39, q191.1)])) ((us x_aM [(13, q191.2)])) q195 e195) (cwV 0 hts (goodV m_ml_X8_205 m_im_X8_next m_se_X8_next m_in_X8 m_cd_X8_next) rfl rfl rfl (by decide +kernel) ⟨Nat.le_of_ble_eq_true rfl, Nat.le_of_ble_eq_true rfl⟩) hN hK hP hD hS hA rfl 0 rfl rfl rfl hl.1 rfl (Nat.le_of_ble_eq_true rfl) dX8_readOne_195 ⟨Nat.zero_le _, Nat.zero_le _⟩ (fun H locs hP hD hS => ?_)
      refine lv_aload_n hx hb dX8_readOne_198 rfl (lv_at hl 0 rfl) ?_
      refine lv_iload_n hx hb dX8_readOne_199 rfl (lv_at hl 1 rfl) ?_
      obtain ⟨q200, e200, h⟩ := g_b h
      refine callVvs (cc := cX8_readOne) (w1 := zzM ad cy q200.1 q200.2) (As := [.int v2]) (rest := []) ⟨hx, hb, hml, hown, hts⟩ (c_M_stand l dC dI cy ad H.size N v2 ((us x_iM [(2, q195.1), (3, q195.2.1), (4, q195.2.2.1), (5, q195.2.2.2.1), (6, q195.2.2.2.2), (39, q191.1)])) ((us x_aM [(13, q191.2)])) q200 e200) (cwV 1 hts (goodV m_ml_X8_283 m_im_X8_stand m_se_X8_stand m_in_X8 m_cd_X8_stand) rfl rfl rfl (by decide +kernel) ⟨Nat.le_of_ble_eq_true rfl, Nat.le_of_ble_eq_true rfl⟩) hN hK hP hD hS hA rfl 0 rfl rfl rfl hl.1 rfl (Nat.le_of_ble_eq_true rfl) dX8_readOne_200 ⟨Nat.zero_le _, Nat.zero_le _⟩ (fun H locs hP hD hS => ?_)
      have h' := Option.some.inj h
      rw [← hQQ]
      exact W.vret hx hb hr (fun t ht hW => ⟨⟨(), rfl, trivial, by rw [← hWQ, ← h', ht]; exact hP, va_K.moved hW.alike hK⟩, hS.F ht⟩) hS.2.2 dX8_readOne_203
  have B173 : ∀ (v1 : Int32) (v2 : Int32) (x_iM : Nat → Int32) (x_aM : Nat → Nat → Int32) (H : Heap) (locs : List Loc) (ls : Array Slot), f_M_readOne_173 N iM aM v1 v2 x_iM x_aM = some q → va_P (dC, dI) vwCl (zzM ad cy x_iM x_aM) H → va_D A (zzM ad cy x_iM x_aM) → va_S A s.heap H locs → lv_has ls 3 [(0, .ref (ad 0)), (1, .int v1), (2, .int v2)] → W p l e ({ frames := 4, cells := 0, slots := 0, locals := 93 } : Room) s m args below meth c H locs 0 0 QQ (F0 m 173 ls []) := by
    intro v1 v2 x_iM x_aM H locs ls h hP hD hS hl
    unfold f_M_readOne_173 at h
    refine lv_iload_n hx hb dX8_readOne_173 rfl (lv_at hl 1 rfl) ?_
    refine lv_if_ge (tgt := 182) hx hb dX8_readOne_174 (by decide) (fun cz => ?_) (fun cz => ?_)
    · have h := g_t h cz
      exact B182 v2 x_iM x_aM H locs ls h hP hD hS (lv_sub hl [0, 2] rfl)
    · have h := g_f h cz
      refine lv_aload_n hx hb dX8_readOne_177 rfl (lv_at hl 0 rfl) ?_
      refine lv_iload_n hx hb dX8_readOne_178 rfl (lv_at hl 2 rfl) ?_
      obtain ⟨q179, e179, h⟩ := g_b h
      refine callVvs (cc := cX8_readOne) (w1 := zzM ad cy (us x_iM [(43, q179.1), (45, q179.2.1), (46, q179.2.2.1), (47, q179.2.2.2.1)]) (us x_aM [(9, q179.2.2.2.2.1), (11, q179.2.2.2.2.2.1), (23, q179.2.2.2.2.2.2.1), (24, q179.2.2.2.2.2.2.2.1), (32, q179.2.2.2.2.2.2.2.2.1), (33, q179.2.2.2.2.2.2.2.2.2.1), (34, q179.2.2.2.2.2.2.2.2.2.2.1), (35, q179.2.2.2.2.2.2.2.2.2.2.2)])) (As := [.int v2]) (rest := []) ⟨hx, hb, hml, hown, hts⟩ (c_M_readName l dC dI cy ad H.size N v2 x_iM x_aM q179 e179) (cwV 1 hts (goodV m_ml_X8_280 m_im_X8_readName m_se_X8_readName m_in_X8 m_cd_X8_readName) rfl rfl rfl (by decide +kernel) ⟨Nat.le_of_ble_eq_true rfl, Nat.le_of_ble_eq_true rfl⟩) hN hK hP hD hS hA rfl 0 rfl rfl rfl hl.1 rfl (Nat.le_of_ble_eq_true rfl) dX8_readOne_179 ⟨Nat.zero_le _, Nat.zero_le _⟩ (fun H locs hP hD hS => ?_)
      exact B182 v2 ((us x_iM [(43, q179.1), (45, q179.2.1), (46, q179.2.2.1), (47, q179.2.2.2.1)])) ((us x_aM [(9, q179.2.2.2.2.1), (11, q179.2.2.2.2.2.1), (23, q179.2.2.2.2.2.2.1), (24, q179.2.2.2.2.2.2.2.1), (32, q179.2.2.2.2.2.2.2.2.1), (33, q179.2.2.2.2.2.2.2.2.2.1), (34, q179.2.2.2.2.2.2.2.2.2.2.1), (35, q179.2.2.2.2.2.2.2.2.2.2.2)])) H locs ls h hP hD hS (lv_sub hl [0, 2] rfl)
  have B105 : ∀ (v1 : Int32) (s1 : Int32) (H : Heap) (locs : List Loc) (ls : Array Slot), f_M_readOne_105 N iM aM v1 s1 = some q → va_P (dC, dI) vwCl (zzM ad cy iM aM) H → va_D A (zzM ad cy iM aM) → va_S A s.heap H locs → lv_has ls 3 [(0, .ref (ad 0)), (1, .int v1)] → W p l e ({ frames := 4, cells := 0, slots := 0, locals := 93 } : Room) s m args below meth c H locs 0 0 QQ (F0 m 105 ls [.int s1, .ref (ad 0)]) := by
    intro v1 s1 H locs ls h hP hD hS hl
    unfold f_M_readOne_105 at h
    obtain ⟨q105, e105, h⟩ := g_b h
    refine callVis (cc := cX8_readOne) (w1 := zzM ad cy (us iM [(38, q105.2.1), (46, q105.2.2.1), (47, q105.2.2.2.1)]) (us aM [(8, q105.2.2.2.2.1), (9, q105.2.2.2.2.2.1), (10, q105.2.2.2.2.2.2.1), (11, q105.2.2.2.2.2.2.2.1), (12, q105.2.2.2.2.2.2.2.2)])) (As := [.int s1]) (rest := []) ⟨hx, hb, hml, hown, hts⟩ (c_M_newNode l dC dI cy ad H.size s1 iM aM q105 e105) (cwV 1 hts (goodV m_ml_X8_273 m_im_X8_newNode m_se_X8_newNode m_in_X8 m_cd_X8_newNode) rfl rfl rfl (by decide +kernel) ⟨Nat.le_of_ble_eq_true rfl, Nat.le_of_ble_eq_true rfl⟩) hN hK hP hD hS hA rfl 0 rfl rfl rfl hl.1 rfl (Nat.le_of_ble_eq_true rfl) dX8_readOne_105 ⟨Nat.zero_le _, Nat.zero_le _⟩ (fun H locs hP hD hS => ?_)
    refine lv_istore_n (lv' := [(2, .int q105.1), (0, .ref (ad 0)), (1, .int v1)]) hx hb dX8_readOne_108 rfl hl (by decide) rfl (fun ls hl => ?_)
    refine lv_aload_n hx hb dX8_readOne_109 rfl (lv_at hl 1 rfl) ?_
    obtain ⟨q110, e110, h⟩ := g_b h
    refine callVis (cc := cX8_readOne) (w1 := zzM ad cy (us iM [(38, q105.2.1), (46, q105.2.2.1), (47, q105.2.2.2.1)]) (us aM [(8, q105.2.2.2.2.1), (9, q105.2.2.2.2.2.1), (10, q105.2.2.2.2.2.2.1), (11, q105.2.2.2.2.2.2.2.1), (12, q105.2.2.2.2.2.2.2.2)])) (As := []) (rest := []) ⟨hx, hb, hml, hown, hts⟩ (c_M_fine l dC dI cy ad H.size ((us iM [(38, q105.2.1), (46, q105.2.2.1), (47, q105.2.2.2.1)])) ((us aM [(8, q105.2.2.2.2.1), (9, q105.2.2.2.2.2.1), (10, q105.2.2.2.2.2.2.1), (11, q105.2.2.2.2.2.2.2.1), (12, q105.2.2.2.2.2.2.2.2)])) q110 e110) (cwV 0 hts (goodV m_ml_X8_198 m_im_X8_fine m_se_X8_fine m_in_X8 m_cd_X8_fine) rfl rfl rfl (by decide +kernel) ⟨Nat.le_of_ble_eq_true rfl, Nat.le_of_ble_eq_true rfl⟩) hN hK hP hD hS hA rfl 0 rfl rfl rfl hl.1 rfl (Nat.le_of_ble_eq_true rfl) dX8_readOne_110 ⟨Nat.zero_le _, Nat.zero_le _⟩ (fun H locs hP hD hS => ?_)
    refine lv_if_ne (tgt := 117) hx hb dX8_readOne_113 (by decide) (fun cz => ?_) (fun cz => ?_)
    · have h := g_f h cz
      refine lv_iload_n hx hb dX8_readOne_117 rfl (lv_at hl 2 rfl) ?_
      refine lv_iconst (v := 5) hx hb dX8_readOne_118 (by decide) ?_
      refine lv_icmp_lt (tgt := 173) hx hb dX8_readOne_119 (by decide) (fun cz => ?_) (fun cz => ?_)
      · have h := g_t h cz
        exact B173 v1 q105.1 ((us iM [(38, q105.2.1), (46, q105.2.2.1), (47, q105.2.2.2.1)])) ((us aM [(8, q105.2.2.2.2.1), (9, q105.2.2.2.2.2.1), (10, q105.2.2.2.2.2.2.1), (11, q105.2.2.2.2.2.2.2.1), (12, q105.2.2.2.2.2.2.2.2)])) H locs ls h hP hD hS (lv_sub hl [1, 2, 0] rfl)
      · have h := g_f h cz
        refine lv_iload_n hx hb dX8_readOne_122 rfl (lv_at hl 2 rfl) ?_
        refine lv_bipush (v := 7) hx hb dX8_readOne_123 (by decide) ?_
        refine lv_icmp_gt (tgt := 173) hx hb dX8_readOne_125 (by decide) (fun cz => ?_) (fun cz => ?_)
        · have h := g_t h cz
          exact B173 v1 q105.1 ((us iM [(38, q105.2.1), (46, q105.2.2.1), (47, q105.2.2.2.1)])) ((us aM [(8, q105.2.2.2.2.1), (9, q105.2.2.2.2.2.1), (10, q105.2.2.2.2.2.2.1), (11, q105.2.2.2.2.2.2.2.1), (12, q105.2.2.2.2.2.2.2.2)])) H locs ls h hP hD hS (lv_sub hl [1, 2, 0] rfl)
        · have h := g_f h cz
          refine lv_aload_n hx hb dX8_readOne_128 rfl (lv_at hl 1 rfl) ?_
          obtain ⟨q129, e129, h⟩ := g_b h
          refine callVis (cc := cX8_readOne) (w1 := zzM ad cy (us iM [(38, q105.2.1), (46, q129.2.1), (47, q129.2.2.1), (49, q129.2.2.2)]) (us aM [(8, q105.2.2.2.2.1), (9, q105.2.2.2.2.2.1), (10, q105.2.2.2.2.2.2.1), (11, q105.2.2.2.2.2.2.2.1), (12, q105.2.2.2.2.2.2.2.2)])) (As := []) (rest := []) ⟨hx, hb, hml, hown, hts⟩ (c_M_goesDeeper l dC dI cy ad H.size ((us iM [(38, q105.2.1), (46, q105.2.2.1), (47, q105.2.2.2.1)])) ((us aM [(8, q105.2.2.2.2.1), (9, q105.2.2.2.2.2.1), (10, q105.2.2.2.2.2.2.1), (11, q105.2.2.2.2.2.2.2.1), (12, q105.2.2.2.2.2.2.2.2)])) q129 e129) (cwV 0 hts (goodV m_ml_X8_267 m_im_X8_goesDeeper m_se_X8_goesDeeper m_in_X8 m_cd_X8_goesDeeper) rfl rfl rfl (by decide +kernel) ⟨Nat.le_of_ble_eq_true rfl, Nat.le_of_ble_eq_true rfl⟩) hN hK hP hD hS hA rfl 0 rfl rfl rfl hl.1 rfl (Nat.le_of_ble_eq_true rfl) dX8_readOne_129 ⟨Nat.zero_le _, Nat.zero_le _⟩ (fun H locs hP hD hS => ?_)
          refine lv_if_ne (tgt := 136) hx hb dX8_readOne_132 (by decide) (fun cz => ?_) (fun cz => ?_)
          · have h := g_f h cz
            refine lv_aload_n hx hb dX8_readOne_136 rfl (lv_at hl 1 rfl) ?_
            obtain ⟨q137, e137, h⟩ := g_b h
            refine callVvs (cc := cX8_readOne) (w1 := zzM ad cy (us iM [(2, q137.1), (3, q137.2.1), (4, q137.2.2.1), (5, q137.2.2.2.1), (6, q137.2.2.2.2), (38, q105.2.1), (46, q129.2.1), (47, q129.2.2.1), (49, q129.2.2.2)]) (us aM [(8, q105.2.2.2.2.1), (9, q105.2.2.2.2.2.1), (10, q105.2.2.2.2.2.2.1), (11, q105.2.2.2.2.2.2.2.1), (12, q105.2.2.2.2.2.2.2.2)])) (As := []) (rest := []) ⟨hx, hb, hml, hown, hts⟩ (c_M_next l dC dI cy ad H.size N ((us iM [(38, q105.2.1), (46, q129.2.1), (47, q129.2.2.1), (49, q129.2.2.2)])) ((us aM [(8, q105.2.2.2.2.1), (9, q105.2.2.2.2.2.1), (10, q105.2.2.2.2.2.2.1), (11, q105.2.2.2.2.2.2.2.1), (12, q105.2.2.2.2.2.2.2.2)])) q137 e137) (cwV 0 hts (goodV m_ml_X8_205 m_im_X8_next m_se_X8_next m_in_X8 m_cd_X8_next) rfl rfl rfl (by decide +kernel) ⟨Nat.le_of_ble_eq_true rfl, Nat.le_of_ble_eq_true rfl⟩) hN hK hP hD hS hA rfl 0 rfl rfl rfl hl.1 rfl (Nat.le_of_ble_eq_true rfl) dX8_readOne_137 ⟨Nat.zero_le _, Nat.zero_le _⟩ (fun H locs hP hD hS => ?_)
            refine lv_iload_n hx hb dX8_readOne_140 rfl (lv_at hl 2 rfl) ?_
            refine lv_iconst (v := 5) hx hb dX8_readOne_141 (by decide) ?_
            refine lv_icmp_eq (tgt := 166) hx hb dX8_readOne_142 (by decide) (fun cz => ?_) (fun cz => ?_)
            · have h := g_t h cz
              exact B166 q105.1 ((us iM [(2, q137.1), (3, q137.2.1), (4, q137.2.2.1), (5, q137.2.2.2.1), (6, q137.2.2.2.2), (38, q105.2.1), (46, q129.2.1), (47, q129.2.2.1), (49, q129.2.2.2)])) ((us aM [(8, q105.2.2.2.2.1), (9, q105.2.2.2.2.2.1), (10, q105.2.2.2.2.2.2.1), (11, q105.2.2.2.2.2.2.2.1), (12, q105.2.2.2.2.2.2.2.2)])) H locs ls h hP hD hS (lv_sub hl [1, 0] rfl)
            · have h := g_f h cz
              refine lv_aload_n hx hb dX8_readOne_145 rfl (lv_at hl 1 rfl) ?_
              refine va_get (D := (dC, dI)) (ci := 8) (v := .ref (ad 4)) (C := RX8) (T := TX8) (N := 78) hx hb hts ki8 hown hK hP 0 rfl rfl 9 (by decide) kf21 (fun _ h9 => h9) rfl dX8_readOne_146 ?_
              refine lv_iload_n hx hb dX8_readOne_149 rfl (lv_at hl 0 rfl) ?_
              refine lv_aload_n hx hb dX8_readOne_150 rfl (lv_at hl 1 rfl) ?_
              obtain ⟨q151, e151, h⟩ := g_b h
              refine callVis (cc := cX8_readOne) (w1 := zzM ad cy (us iM [(2, q137.1), (3, q137.2.1), (4, q137.2.2.1), (5, q137.2.2.2.1), (6, q137.2.2.2.2), (38, q105.2.1), (44, q151.2.1), (46, q151.2.2.1), (47, q151.2.2.2.1), (49, q129.2.2.2)]) (us aM [(8, q105.2.2.2.2.1), (9, q105.2.2.2.2.2.1), (10, q105.2.2.2.2.2.2.1), (11, q105.2.2.2.2.2.2.2.1), (12, q105.2.2.2.2.2.2.2.2), (26, q151.2.2.2.2.1), (27, q151.2.2.2.2.2.1), (29, q151.2.2.2.2.2.2.1), (31, q151.2.2.2.2.2.2.2)])) (As := []) (rest := [.int q105.1, .ref (ad 4)]) ⟨hx, hb, hml, hown, hts⟩ (c_M_readRole l dC dI cy ad H.size N ((us iM [(2, q137.1), (3, q137.2.1), (4, q137.2.2.1), (5, q137.2.2.2.1), (6, q137.2.2.2.2), (38, q105.2.1), (46, q129.2.1), (47, q129.2.2.1), (49, q129.2.2.2)])) ((us aM [(8, q105.2.2.2.2.1), (9, q105.2.2.2.2.2.1), (10, q105.2.2.2.2.2.2.1), (11, q105.2.2.2.2.2.2.2.1), (12, q105.2.2.2.2.2.2.2.2)])) q151 e151) (cwV 0 hts (goodV m_ml_X8_277 m_im_X8_readRole m_se_X8_readRole m_in_X8 m_cd_X8_readRole) rfl rfl rfl (by decide +kernel) ⟨Nat.le_of_ble_eq_true rfl, Nat.le_of_ble_eq_true rfl⟩) hN hK hP hD hS hA rfl 0 rfl rfl rfl hl.1 rfl (Nat.le_of_ble_eq_true rfl) dX8_readOne_151 ⟨Nat.zero_le _, Nat.zero_le _⟩ (fun H locs hP hD hS => ?_)
              obtain ⟨g_82, h⟩ := g_n h
              refine va_iast (f := q105.2.2.2.2.2.1) hx hb hK hP hD hS 4 0 rfl rfl g_82 dX8_readOne_154 (fun H locs hP hD hS => ?_)
              have hP : va_P (dC, dI) vwCl (zzM ad cy (us iM [(2, q137.1), (3, q137.2.1), (4, q137.2.2.1), (5, q137.2.2.2.1), (6, q137.2.2.2.2), (38, q105.2.1), (44, q151.2.1), (46, q151.2.2.1), (47, q151.2.2.2.1), (49, q129.2.2.2)]) (us aM [(8, q105.2.2.2.2.1), (9, (upd q105.2.2.2.2.2.1 q105.1.toNatClampNeg q151.1)), (10, q105.2.2.2.2.2.2.1), (11, q105.2.2.2.2.2.2.2.1), (12, q105.2.2.2.2.2.2.2.2), (26, q151.2.2.2.2.1), (27, q151.2.2.2.2.2.1), (29, q151.2.2.2.2.2.2.1), (31, q151.2.2.2.2.2.2.2)])) H := Eq.mp (congrArg (fun w => va_P (dC, dI) vwCl w H) (stM_aM9 ad cy (us iM [(2, q137.1), (3, q137.2.1), (4, q137.2.2.1), (5, q137.2.2.2.1), (6, q137.2.2.2.2), (38, q105.2.1), (44, q151.2.1), (46, q151.2.2.1), (47, q151.2.2.2.1), (49, q129.2.2.2)]) aM [(8, q105.2.2.2.2.1), (9, q105.2.2.2.2.2.1), (10, q105.2.2.2.2.2.2.1), (11, q105.2.2.2.2.2.2.2.1), (12, q105.2.2.2.2.2.2.2.2), (26, q151.2.2.2.2.1), (27, q151.2.2.2.2.2.1), (29, q151.2.2.2.2.2.2.1), (31, q151.2.2.2.2.2.2.2)] ((upd q105.2.2.2.2.2.1 q105.1.toNatClampNeg q151.1)))) hP
              have hD : va_D A (zzM ad cy (us iM [(2, q137.1), (3, q137.2.1), (4, q137.2.2.1), (5, q137.2.2.2.1), (6, q137.2.2.2.2), (38, q105.2.1), (44, q151.2.1), (46, q151.2.2.1), (47, q151.2.2.2.1), (49, q129.2.2.2)]) (us aM [(8, q105.2.2.2.2.1), (9, (upd q105.2.2.2.2.2.1 q105.1.toNatClampNeg q151.1)), (10, q105.2.2.2.2.2.2.1), (11, q105.2.2.2.2.2.2.2.1), (12, q105.2.2.2.2.2.2.2.2), (26, q151.2.2.2.2.1), (27, q151.2.2.2.2.2.1), (29, q151.2.2.2.2.2.2.1), (31, q151.2.2.2.2.2.2.2)])) := Eq.mp (congrArg (fun w => va_D A w) (stM_aM9 ad cy (us iM [(2, q137.1), (3, q137.2.1), (4, q137.2.2.1), (5, q137.2.2.2.1), (6, q137.2.2.2.2), (38, q105.2.1), (44, q151.2.1), (46, q151.2.2.1), (47, q151.2.2.2.1), (49, q129.2.2.2)]) aM [(8, q105.2.2.2.2.1), (9, q105.2.2.2.2.2.1), (10, q105.2.2.2.2.2.2.1), (11, q105.2.2.2.2.2.2.2.1), (12, q105.2.2.2.2.2.2.2.2), (26, q151.2.2.2.2.1), (27, q151.2.2.2.2.2.1), (29, q151.2.2.2.2.2.2.1), (31, q151.2.2.2.2.2.2.2)] ((upd q105.2.2.2.2.2.1 q105.1.toNatClampNeg q151.1)))) hD
              refine lv_aload_n hx hb dX8_readOne_155 rfl (lv_at hl 1 rfl) ?_
              obtain ⟨q156, e156, h⟩ := g_b h
              refine callVis (cc := cX8_readOne) (w1 := zzM ad cy (us iM [(2, q137.1), (3, q137.2.1), (4, q137.2.2.1), (5, q137.2.2.2.1), (6, q137.2.2.2.2), (38, q105.2.1), (44, q151.2.1), (46, q151.2.2.1), (47, q151.2.2.2.1), (49, q129.2.2.2)]) (us aM [(8, q105.2.2.2.2.1), (9, (upd q105.2.2.2.2.2.1 q105.1.toNatClampNeg q151.1)), (10, q105.2.2.2.2.2.2.1), (11, q105.2.2.2.2.2.2.2.1), (12, q105.2.2.2.2.2.2.2.2), (26, q151.2.2.2.2.1), (27, q151.2.2.2.2.2.1), (29, q151.2.2.2.2.2.2.1), (31, q151.2.2.2.2.2.2.2)])) (As := []) (rest := []) ⟨hx, hb, hml, hown, hts⟩ (c_M_fine l dC dI cy ad H.size ((us iM [(2, q137.1), (3, q137.2.1), (4, q137.2.2.1), (5, q137.2.2.2.1), (6, q137.2.2.2.2), (38, q105.2.1), (44, q151.2.1), (46, q151.2.2.1), (47, q151.2.2.2.1), (49, q129.2.2.2)])) ((us aM [(8, q105.2.2.2.2.1), (9, (upd q105.2.2.2.2.2.1 q105.1.toNatClampNeg q151.1)), (10, q105.2.2.2.2.2.2.1), (11, q105.2.2.2.2.2.2.2.1), (12, q105.2.2.2.2.2.2.2.2), (26, q151.2.2.2.2.1), (27, q151.2.2.2.2.2.1), (29, q151.2.2.2.2.2.2.1), (31, q151.2.2.2.2.2.2.2)])) q156 e156) (cwV 0 hts (goodV m_ml_X8_198 m_im_X8_fine m_se_X8_fine m_in_X8 m_cd_X8_fine) rfl rfl rfl (by decide +kernel) ⟨Nat.le_of_ble_eq_true rfl, Nat.le_of_ble_eq_true rfl⟩) hN hK hP hD hS hA rfl 0 rfl rfl rfl hl.1 rfl (Nat.le_of_ble_eq_true rfl) dX8_readOne_156 ⟨Nat.zero_le _, Nat.zero_le _⟩ (fun H locs hP hD hS => ?_)
              refine lv_if_eq (tgt := 166) hx hb dX8_readOne_159 (by decide) (fun cz => ?_) (fun cz => ?_)
              · have h := g_t h cz
                exact B166 q105.1 ((us iM [(2, q137.1), (3, q137.2.1), (4, q137.2.2.1), (5, q137.2.2.2.1), (6, q137.2.2.2.2), (38, q105.2.1), (44, q151.2.1), (46, q151.2.2.1), (47, q151.2.2.2.1), (49, q129.2.2.2)])) ((us aM [(8, q105.2.2.2.2.1), (9, (upd q105.2.2.2.2.2.1 q105.1.toNatClampNeg q151.1)), (10, q105.2.2.2.2.2.2.1), (11, q105.2.2.2.2.2.2.2.1), (12, q105.2.2.2.2.2.2.2.2), (26, q151.2.2.2.2.1), (27, q151.2.2.2.2.2.1), (29, q151.2.2.2.2.2.2.1), (31, q151.2.2.2.2.2.2.2)])) H locs ls h hP hD hS (lv_sub hl [1, 0] rfl)
              · have h := g_f h cz
                refine lv_aload_n hx hb dX8_readOne_162 rfl (lv_at hl 1 rfl) ?_
                obtain ⟨q163, e163, h⟩ := g_b h
                refine callVvs (cc := cX8_readOne) (w1 := zzM ad cy (us iM [(2, q163.1), (3, q163.2.1), (4, q163.2.2.1), (5, q163.2.2.2.1), (6, q163.2.2.2.2), (38, q105.2.1), (44, q151.2.1), (46, q151.2.2.1), (47, q151.2.2.2.1), (49, q129.2.2.2)]) (us aM [(8, q105.2.2.2.2.1), (9, (upd q105.2.2.2.2.2.1 q105.1.toNatClampNeg q151.1)), (10, q105.2.2.2.2.2.2.1), (11, q105.2.2.2.2.2.2.2.1), (12, q105.2.2.2.2.2.2.2.2), (26, q151.2.2.2.2.1), (27, q151.2.2.2.2.2.1), (29, q151.2.2.2.2.2.2.1), (31, q151.2.2.2.2.2.2.2)])) (As := []) (rest := []) ⟨hx, hb, hml, hown, hts⟩ (c_M_next l dC dI cy ad H.size N ((us iM [(2, q137.1), (3, q137.2.1), (4, q137.2.2.1), (5, q137.2.2.2.1), (6, q137.2.2.2.2), (38, q105.2.1), (44, q151.2.1), (46, q151.2.2.1), (47, q151.2.2.2.1), (49, q129.2.2.2)])) ((us aM [(8, q105.2.2.2.2.1), (9, (upd q105.2.2.2.2.2.1 q105.1.toNatClampNeg q151.1)), (10, q105.2.2.2.2.2.2.1), (11, q105.2.2.2.2.2.2.2.1), (12, q105.2.2.2.2.2.2.2.2), (26, q151.2.2.2.2.1), (27, q151.2.2.2.2.2.1), (29, q151.2.2.2.2.2.2.1), (31, q151.2.2.2.2.2.2.2)])) q163 e163) (cwV 0 hts (goodV m_ml_X8_205 m_im_X8_next m_se_X8_next m_in_X8 m_cd_X8_next) rfl rfl rfl (by decide +kernel) ⟨Nat.le_of_ble_eq_true rfl, Nat.le_of_ble_eq_true rfl⟩) hN hK hP hD hS hA rfl 0 rfl rfl rfl hl.1 rfl (Nat.le_of_ble_eq_true rfl) dX8_readOne_163 ⟨Nat.zero_le _, Nat.zero_le _⟩ (fun H locs hP hD hS => ?_)
                exact B166 q105.1 ((us iM [(2, q163.1), (3, q163.2.1), (4, q163.2.2.1), (5, q163.2.2.2.1), (6, q163.2.2.2.2), (38, q105.2.1), (44, q151.2.1), (46, q151.2.2.1), (47, q151.2.2.2.1), (49, q129.2.2.2)])) ((us aM [(8, q105.2.2.2.2.1), (9, (upd q105.2.2.2.2.2.1 q105.1.toNatClampNeg q151.1)), (10, q105.2.2.2.2.2.2.1), (11, q105.2.2.2.2.2.2.2.1), (12, q105.2.2.2.2.2.2.2.2), (26, q151.2.2.2.2.1), (27, q151.2.2.2.2.2.1), (29, q151.2.2.2.2.2.2.1), (31, q151.2.2.2.2.2.2.2)])) H locs ls h hP hD hS (lv_sub hl [1, 0] rfl)
          · have h := g_t h cz
            have h' := Option.some.inj h
            rw [← hQQ]
            exact W.vret hx hb hr (fun t ht hW => ⟨⟨(), rfl, trivial, by rw [← hWQ, ← h', ht]; exact hP, va_K.moved hW.alike hK⟩, hS.F ht⟩) hS.2.2 dX8_readOne_135
    · have h := g_t h cz
      have h' := Option.some.inj h
      rw [← hQQ]
      exact W.vret hx hb hr (fun t ht hW => ⟨⟨(), rfl, trivial, by rw [← hWQ, ← h', ht]; exact hP, va_K.moved hW.alike hK⟩, hS.F ht⟩) hS.2.2 dX8_readOne_116
  have B54 : ∀ (v1 : Int32) (H : Heap) (locs : List Loc) (ls : Array Slot), f_M_readOne_54 N iM aM v1 = some q → va_P (dC, dI) vwCl (zzM ad cy iM aM) H → va_D A (zzM ad cy iM aM) → va_S A s.heap H locs → lv_has ls 3 [(0, .ref (ad 0)), (1, .int v1)] → W p l e ({ frames := 4, cells := 0, slots := 0, locals := 93 } : Room) s m args below meth c H locs 0 0 QQ (F0 m 54 ls []) := by
    intro v1 H locs ls h hP hD hS hl
    unfold f_M_readOne_54 at h
    refine lv_aload_n hx hb dX8_readOne_54 rfl (lv_at hl 0 rfl) ?_
    refine lv_iload_n hx hb dX8_readOne_55 rfl (lv_at hl 1 rfl) ?_
    refine lv_iconst (v := 5) hx hb dX8_readOne_56 (by decide) ?_
    refine lv_icmp_ne (tgt := 64) hx hb dX8_readOne_57 (by decide) (fun cz => ?_) (fun cz => ?_)
    · have h := g_f h cz
      refine lv_iload_n hx hb dX8_readOne_64 rfl (lv_at hl 1 rfl) ?_
      refine lv_bipush (v := 6) hx hb dX8_readOne_65 (by decide) ?_
      refine lv_icmp_ne (tgt := 74) hx hb dX8_readOne_67 (by decide) (fun cz => ?_) (fun cz => ?_)
      · have h := g_f h cz
        refine lv_iload_n hx hb dX8_readOne_74 rfl (lv_at hl 1 rfl) ?_
        refine lv_bipush (v := 7) hx hb dX8_readOne_75 (by decide) ?_
        refine lv_icmp_ne (tgt := 84) hx hb dX8_readOne_77 (by decide) (fun cz => ?_) (fun cz => ?_)
        · have h := g_f h cz
          refine lv_iload_n hx hb dX8_readOne_84 rfl (lv_at hl 1 rfl) ?_
          refine lv_bipush (v := 8) hx hb dX8_readOne_85 (by decide) ?_
          refine lv_icmp_ne (tgt := 94) hx hb dX8_readOne_87 (by decide) (fun cz => ?_) (fun cz => ?_)
          · have h := g_f h cz
            refine lv_iload_n hx hb dX8_readOne_94 rfl (lv_at hl 1 rfl) ?_
            refine lv_bipush (v := 9) hx hb dX8_readOne_95 (by decide) ?_
            refine lv_icmp_ne (tgt := 104) hx hb dX8_readOne_97 (by decide) (fun cz => ?_) (fun cz => ?_)
            · have h := g_f h cz
              refine lv_iconst (v := 0) hx hb dX8_readOne_104 (by decide) ?_
              exact B105 v1 ((0 : Int32)) H locs ls h hP hD hS (lv_sub hl [0, 1] rfl)
            · have h := g_t h cz
              refine lv_iconst (v := 2) hx hb dX8_readOne_100 (by decide) ?_
              refine lv_goto (tgt := 105) hx hb dX8_readOne_101 (by decide) ?_
              exact B105 v1 ((2 : Int32)) H locs ls h hP hD hS (lv_sub hl [0, 1] rfl)
          · have h := g_t h cz
            refine lv_iconst (v := 1) hx hb dX8_readOne_90 (by decide) ?_
            refine lv_goto (tgt := 105) hx hb dX8_readOne_91 (by decide) ?_
            exact B105 v1 ((1 : Int32)) H locs ls h hP hD hS (lv_sub hl [0, 1] rfl)
        · have h := g_t h cz
          refine lv_iconst (v := 5) hx hb dX8_readOne_80 (by decide) ?_
          refine lv_goto (tgt := 105) hx hb dX8_readOne_81 (by decide) ?_
          exact B105 v1 ((5 : Int32)) H locs ls h hP hD hS (lv_sub hl [0, 1] rfl)
      · have h := g_t h cz
        refine lv_iconst (v := 4) hx hb dX8_readOne_70 (by decide) ?_
        refine lv_goto (tgt := 105) hx hb dX8_readOne_71 (by decide) ?_
        exact B105 v1 ((4 : Int32)) H locs ls h hP hD hS (lv_sub hl [0, 1] rfl)
    · have h := g_t h cz
      refine lv_iconst (v := 3) hx hb dX8_readOne_60 (by decide) ?_
      refine lv_goto (tgt := 105) hx hb dX8_readOne_61 (by decide) ?_
      exact B105 v1 ((3 : Int32)) H locs ls h hP hD hS (lv_sub hl [0, 1] rfl)
  have B49 : ∀  (H : Heap) (locs : List Loc) (ls : Array Slot), f_M_readOne_49 N iM aM = some q → va_P (dC, dI) vwCl (zzM ad cy iM aM) H → va_D A (zzM ad cy iM aM) → va_S A s.heap H locs → lv_has ls 3 [(0, .ref (ad 0))] → W p l e ({ frames := 4, cells := 0, slots := 0, locals := 93 } : Room) s m args below meth c H locs 0 0 QQ (F0 m 49 ls []) := by
    intro H locs ls h hP hD hS hl
    unfold f_M_readOne_49 at h
    refine lv_aload_n hx hb dX8_readOne_49 rfl (lv_at hl 0 rfl) ?_
    obtain ⟨q50, e50, h⟩ := g_b h
    refine callVvs (cc := cX8_readOne) (w1 := zzM ad cy (us iM [(46, q50.1), (47, q50.2)]) aM) (As := []) (rest := []) ⟨hx, hb, hml, hown, hts⟩ (c_M_misplaced l dC dI cy ad H.size iM aM q50 e50) (cwV 0 hts (goodV m_ml_X8_208 m_im_X8_misplaced m_se_X8_misplaced m_in_X8 m_cd_X8_misplaced) rfl rfl rfl (by decide +kernel) ⟨Nat.le_of_ble_eq_true rfl, Nat.le_of_ble_eq_true rfl⟩) hN hK hP hD hS hA rfl 0 rfl rfl rfl hl.1 rfl (Nat.le_of_ble_eq_true rfl) dX8_readOne_50 ⟨Nat.zero_le _, Nat.zero_le _⟩ (fun H locs hP hD hS => ?_)
    have h' := Option.some.inj h
    rw [← hQQ]
    exact W.vret hx hb hr (fun t ht hW => ⟨⟨(), rfl, trivial, by rw [← hWQ, ← h', ht]; exact hP, va_K.moved hW.alike hK⟩, hS.F ht⟩) hS.2.2 dX8_readOne_53
  intro H locs hP hD hS
  unfold f_M_readOne at h
  refine lv_aload_n hx hb dX8_readOne_0 rfl (lv_at hl 0 rfl) ?_
  obtain ⟨q1, e1, h⟩ := g_b h
  refine callVis (cc := cX8_readOne) (w1 := zzM ad cy iM aM) (As := []) (rest := []) ⟨hx, hb, hml, hown, hts⟩ (c_M_kept l dC dI cy ad H.size N iM aM q1 e1) (cwV 0 hts (goodV m_ml_X8_224 m_im_X8_kept m_se_X8_kept m_in_X8 m_cd_X8_kept) rfl rfl rfl (by decide +kernel) ⟨Nat.le_of_ble_eq_true rfl, Nat.le_of_ble_eq_true rfl⟩) hN hK hP hD hS hA rfl 0 rfl rfl rfl hl.1 rfl (Nat.le_of_ble_eq_true rfl) dX8_readOne_1 ⟨Nat.zero_le _, Nat.zero_le _⟩ (fun H locs hP hD hS => ?_)
  refine lv_istore_n (lv' := [(1, .int q1), (0, .ref (ad 0))]) hx hb dX8_readOne_4 rfl hl (by decide) rfl (fun ls hl => ?_)
  refine lv_aload_n hx hb dX8_readOne_5 rfl (lv_at hl 1 rfl) ?_
  refine lv_bipush (v := 40) hx hb dX8_readOne_6 (by decide) ?_
  obtain ⟨q8, e8, h⟩ := g_b h
  refine callVis (cc := cX8_readOne) (w1 := zzM ad cy iM aM) (As := [.int ((40 : Int32))]) (rest := []) ⟨hx, hb, hml, hown, hts⟩ (c_M_isSignHere l dC dI cy ad H.size ((40 : Int32)) iM aM q8 e8) (cwV 1 hts (goodV m_ml_X8_202 m_im_X8_isSignHere m_se_X8_isSignHere m_in_X8 m_cd_X8_isSignHere) rfl rfl rfl (by decide +kernel) ⟨Nat.le_of_ble_eq_true rfl, Nat.le_of_ble_eq_true rfl⟩) hN hK hP hD hS hA rfl 0 rfl rfl rfl hl.1 rfl (Nat.le_of_ble_eq_true rfl) dX8_readOne_8 ⟨Nat.zero_le _, Nat.zero_le _⟩ (fun H locs hP hD hS => ?_)
  refine lv_if_eq (tgt := 32) hx hb dX8_readOne_11 (by decide) (fun cz => ?_) (fun cz => ?_)
  · have h := g_t h cz
    refine lv_aload_n hx hb dX8_readOne_32 rfl (lv_at hl 1 rfl) ?_
    refine va_get (D := (dC, dI)) (ci := 8) (v := .int ((iM 3))) (C := RX8) (T := TX8) (N := 78) hx hb hts ki8 hown hK hP 0 rfl rfl 3 (by decide) kf178 (fun _ h9 => h9) rfl dX8_readOne_33 ?_
    refine lv_iconst (v := 1) hx hb dX8_readOne_36 (by decide) ?_
    refine lv_icmp_ne (tgt := 49) hx hb dX8_readOne_37 (by decide) (fun cz => ?_) (fun cz => ?_)
    · have h := g_f h cz
      exact B49 H locs ls h hP hD hS (lv_sub hl [1] rfl)
    · have h := g_t h cz
      refine lv_iload_n hx hb dX8_readOne_40 rfl (lv_at hl 0 rfl) ?_
      refine lv_if_lt (tgt := 54) hx hb dX8_readOne_41 (by decide) (fun cz => ?_) (fun cz => ?_)
      · have h := g_t h cz
        exact B54 q1 H locs ls h hP hD hS (lv_sub hl [1, 0] rfl)
      · have h := g_f h cz
        refine lv_iload_n hx hb dX8_readOne_44 rfl (lv_at hl 0 rfl) ?_
        refine lv_iconst (v := 5) hx hb dX8_readOne_45 (by decide) ?_
        refine lv_icmp_ge (tgt := 54) hx hb dX8_readOne_46 (by decide) (fun cz => ?_) (fun cz => ?_)
        · have h := g_t h cz
          exact B54 q1 H locs ls h hP hD hS (lv_sub hl [1, 0] rfl)
        · have h := g_f h cz
          exact B49 H locs ls h hP hD hS (lv_sub hl [1] rfl)
  · have h := g_f h cz
    refine lv_aload_n hx hb dX8_readOne_14 rfl (lv_at hl 1 rfl) ?_
    obtain ⟨q15, e15, h⟩ := g_b h
    refine callVis (cc := cX8_readOne) (w1 := zzM ad cy (us iM [(46, q15.2.1), (47, q15.2.2.1), (49, q15.2.2.2)]) aM) (As := []) (rest := []) ⟨hx, hb, hml, hown, hts⟩ (c_M_goesDeeper l dC dI cy ad H.size iM aM q15 e15) (cwV 0 hts (goodV m_ml_X8_267 m_im_X8_goesDeeper m_se_X8_goesDeeper m_in_X8 m_cd_X8_goesDeeper) rfl rfl rfl (by decide +kernel) ⟨Nat.le_of_ble_eq_true rfl, Nat.le_of_ble_eq_true rfl⟩) hN hK hP hD hS hA rfl 0 rfl rfl rfl hl.1 rfl (Nat.le_of_ble_eq_true rfl) dX8_readOne_15 ⟨Nat.zero_le _, Nat.zero_le _⟩ (fun H locs hP hD hS => ?_)
    refine lv_if_eq (tgt := 31) hx hb dX8_readOne_18 (by decide) (fun cz => ?_) (fun cz => ?_)
    · have h := g_t h cz
      have h' := Option.some.inj h
      rw [← hQQ]
      exact W.vret hx hb hr (fun t ht hW => ⟨⟨(), rfl, trivial, by rw [← hWQ, ← h', ht]; exact hP, va_K.moved hW.alike hK⟩, hS.F ht⟩) hS.2.2 dX8_readOne_31
    · have h := g_f h cz
      refine lv_aload_n hx hb dX8_readOne_21 rfl (lv_at hl 1 rfl) ?_
      refine lv_iconst (v := 1) hx hb dX8_readOne_22 (by decide) ?_
      refine lv_iconst (v := (-1)) hx hb dX8_readOne_23 (by decide) ?_
      obtain ⟨q24, e24, h⟩ := g_b h
      refine callVvs (cc := cX8_readOne) (w1 := zzM ad cy (us iM [(46, q15.2.1), (47, q15.2.2.1), (49, q15.2.2.2), (54, q24.1)]) (us aM [(52, q24.2.1), (53, q24.2.2)])) (As := [.int ((1 : Int32)), .int ((-1 : Int32))]) (rest := []) ⟨hx, hb, hml, hown, hts⟩ (c_M_wait l dC dI cy ad H.size ((1 : Int32)) ((-1 : Int32)) ((us iM [(46, q15.2.1), (47, q15.2.2.1), (49, q15.2.2.2)])) aM q24 e24) (cwV 2 hts (goodV m_ml_X8_270 m_im_X8_wait m_se_X8_wait m_in_X8 m_cd_X8_wait) rfl rfl rfl (by decide +kernel) ⟨Nat.le_of_ble_eq_true rfl, Nat.le_of_ble_eq_true rfl⟩) hN hK hP hD hS hA rfl 0 rfl rfl rfl hl.1 rfl (Nat.le_of_ble_eq_true rfl) dX8_readOne_24 ⟨Nat.zero_le _, Nat.zero_le _⟩ (fun H locs hP hD hS => ?_)
      refine lv_aload_n hx hb dX8_readOne_27 rfl (lv_at hl 1 rfl) ?_
      obtain ⟨q28, e28, h⟩ := g_b h
      refine callVvs (cc := cX8_readOne) (w1 := zzM ad cy (us iM [(2, q28.1), (3, q28.2.1), (4, q28.2.2.1), (5, q28.2.2.2.1), (6, q28.2.2.2.2), (46, q15.2.1), (47, q15.2.2.1), (49, q15.2.2.2), (54, q24.1)]) (us aM [(52, q24.2.1), (53, q24.2.2)])) (As := []) (rest := []) ⟨hx, hb, hml, hown, hts⟩ (c_M_next l dC dI cy ad H.size N ((us iM [(46, q15.2.1), (47, q15.2.2.1), (49, q15.2.2.2), (54, q24.1)])) ((us aM [(52, q24.2.1), (53, q24.2.2)])) q28 e28) (cwV 0 hts (goodV m_ml_X8_205 m_im_X8_next m_se_X8_next m_in_X8 m_cd_X8_next) rfl rfl rfl (by decide +kernel) ⟨Nat.le_of_ble_eq_true rfl, Nat.le_of_ble_eq_true rfl⟩) hN hK hP hD hS hA rfl 0 rfl rfl rfl hl.1 rfl (Nat.le_of_ble_eq_true rfl) dX8_readOne_28 ⟨Nat.zero_le _, Nat.zero_le _⟩ (fun H locs hP hD hS => ?_)
      have h' := Option.some.inj h
      rw [← hQQ]
      exact W.vret hx hb hr (fun t ht hW => ⟨⟨(), rfl, trivial, by rw [← hWQ, ← h', ht]; exact hP, va_K.moved hW.alike hK⟩, hS.F ht⟩) hS.2.2 dX8_readOne_31
set_option maxHeartbeats 8000000 in
set_option maxRecDepth 100000 in
theorem c_M_readBehind (l : Launch) (dC : Nat → ClassId) (dI : Nat → Nat → Nat) (cy : Nat → ClassId) (ad : Nat → Nat) (sz : Nat) (N : Nat) (iM : Nat → Int32) (aM : Nat → Nat → Int32) (q : Int32 × (Nat → Int32) × (Nat → Nat → Int32)) (h : f_M_readBehind N iM aM = some q) : Met l yX8_readBehind wsX8_readBehind ({ frames := 4, cells := 0, slots := 0, locals := 93 } : Room) (cP (dC, dI) cy [.ref (ad 0)] (zzM ad cy iM aM) sz) (cQi (dC, dI) cy q.1 (zzM ad cy q.2.1 q.2.2) (va_A (zzM ad cy iM aM) sz)) 0 0 (va_A (zzM ad cy iM aM) sz) := by
  refine Met.ofW (cc := cX8_readBehind) (maxL := 3) (ret := (some .boolean)) (by decide) rfl ?_
  intro p e s m args below meth c s₁ B hml hv
  obtain ⟨hav, hsz, hP, hK, hD0, hN⟩ := hv
  have hx := B.exec
  have hb := B.bytes
  have hr := B.returns
  have hts := atoms_spec (ws := wsX8_readBehind) B.pre
  have hown : s.vm.findClass RX8 = some m.cls := findClass_of_methodNamed B.named
  have hlocks := B.notSynchronized
  subst hsz
  have hD := hD0.self (sz := s.heap.size)
  generalize hAe : va_A (zzM ad cy iM aM) s.heap.size = A at hD ⊢
  have hA : ∀ q : Nat, s.heap.size ≤ q → A q := fun q h => by rw [← hAe]; exact Or.inr h
  have hS : va_S A s.heap s.heap [] := va_S.rf
  generalize hWQ : (zzM ad cy q.2.1 q.2.2) = WQ
  generalize hQQ : MQ below (cQi (dC, dI) cy q.1 WQ A) args s 0 0 A = QQ
  have hl := lv_entry ([.ref (ad 0)] : List Value) (n := 3) (Nat.le_of_ble_eq_true rfl)
  have hfr := lg_entry_eq m ([.ref (ad 0)] : List Value) 3
  rw [← hav] at hfr
  rw [hfr]
  clear hfr hav
  generalize (lg_sl ([.ref (ad 0)] : List Value) ++ List.replicate (3 - (lg_sl ([.ref (ad 0)] : List Value)).length) Slot.unset).toArray = ls at hl ⊢
  have hl : lv_has ls 3 [(0, .ref (ad 0))] := hl
  have kf21 := hts _ (List.mem_cons_of_mem _ m_fl_X8_21)
  have ki8 := (fun w h => List.mem_cons_of_mem _ (i_X8 w h) : ∀ w ∈ u_ws RX8 TX8 78, w ∈ wsX8_readBehind)
  have kf251 := hts _ (List.mem_cons_of_mem _ m_fl_X8_251)
  have kf263 := hts _ (List.mem_cons_of_mem _ m_fl_X8_263)
  have kf95 := hts _ (List.mem_cons_of_mem _ m_fl_X8_95)
  have kf248 := hts _ (List.mem_cons_of_mem _ m_fl_X8_248)
  have kf254 := hts _ (List.mem_cons_of_mem _ m_fl_X8_254)
  refine (?_ : ∀ (H : Heap) (locs : List Loc), va_P (dC, dI) vwCl (zzM ad cy iM aM) H → va_D A (zzM ad cy iM aM) → va_S A s.heap H locs → W p l e ({ frames := 4, cells := 0, slots := 0, locals := 93 } : Room) s m args below meth c H locs 0 0 QQ (F0 m 0 ls [])) s.heap [] hP hD hS
  clear hP hD hS
  have B44 : ∀ (s1 : Int32) (x_iM : Nat → Int32) (x_aM : Nat → Nat → Int32) (H : Heap) (locs : List Loc) (ls : Array Slot), f_M_readBehind_44 N iM aM s1 x_iM x_aM = some q → va_P (dC, dI) vwCl (zzM ad cy x_iM x_aM) H → va_D A (zzM ad cy x_iM x_aM) → va_S A s.heap H locs → lv_has ls 3 [(0, .ref (ad 0))] → W p l e ({ frames := 4, cells := 0, slots := 0, locals := 93 } : Room) s m args below meth c H locs 0 0 QQ (F0 m 44 ls [.int s1, .ref (ad 0)]) := by
    intro s1 x_iM x_aM H locs ls h hP hD hS hl
    unfold f_M_readBehind_44 at h
    obtain ⟨q44, e44, h⟩ := g_b h
    refine callVis (cc := cX8_readBehind) (w1 := zzM ad cy (us x_iM [(38, q44.2.1), (46, q44.2.2.1), (47, q44.2.2.2.1)]) (us x_aM [(8, q44.2.2.2.2.1), (9, q44.2.2.2.2.2.1), (10, q44.2.2.2.2.2.2.1), (11, q44.2.2.2.2.2.2.2.1), (12, q44.2.2.2.2.2.2.2.2)])) (As := [.int s1]) (rest := []) ⟨hx, hb, hml, hown, hts⟩ (c_M_newNode l dC dI cy ad H.size s1 x_iM x_aM q44 e44) (cwV 1 hts (goodV m_ml_X8_273 m_im_X8_newNode m_se_X8_newNode m_in_X8 m_cd_X8_newNode) rfl rfl rfl (by decide +kernel) ⟨Nat.le_of_ble_eq_true rfl, Nat.le_of_ble_eq_true rfl⟩) hN hK hP hD hS hA rfl 0 rfl rfl rfl hl.1 rfl (Nat.le_of_ble_eq_true rfl) dX8_readBehind_44 ⟨Nat.zero_le _, Nat.zero_le _⟩ (fun H locs hP hD hS => ?_)
    refine lv_istore_n (lv' := [(2, .int q44.1), (0, .ref (ad 0))]) hx hb dX8_readBehind_47 rfl hl (by decide) rfl (fun ls hl => ?_)
    refine lv_aload_n hx hb dX8_readBehind_48 rfl (lv_at hl 1 rfl) ?_
    obtain ⟨q49, e49, h⟩ := g_b h
    refine callVis (cc := cX8_readBehind) (w1 := zzM ad cy (us x_iM [(38, q44.2.1), (46, q44.2.2.1), (47, q44.2.2.2.1)]) (us x_aM [(8, q44.2.2.2.2.1), (9, q44.2.2.2.2.2.1), (10, q44.2.2.2.2.2.2.1), (11, q44.2.2.2.2.2.2.2.1), (12, q44.2.2.2.2.2.2.2.2)])) (As := []) (rest := []) ⟨hx, hb, hml, hown, hts⟩ (c_M_fine l dC dI cy ad H.size ((us x_iM [(38, q44.2.1), (46, q44.2.2.1), (47, q44.2.2.2.1)])) ((us x_aM [(8, q44.2.2.2.2.1), (9, q44.2.2.2.2.2.1), (10, q44.2.2.2.2.2.2.1), (11, q44.2.2.2.2.2.2.2.1), (12, q44.2.2.2.2.2.2.2.2)])) q49 e49) (cwV 0 hts (goodV m_ml_X8_198 m_im_X8_fine m_se_X8_fine m_in_X8 m_cd_X8_fine) rfl rfl rfl (by decide +kernel) ⟨Nat.le_of_ble_eq_true rfl, Nat.le_of_ble_eq_true rfl⟩) hN hK hP hD hS hA rfl 0 rfl rfl rfl hl.1 rfl (Nat.le_of_ble_eq_true rfl) dX8_readBehind_49 ⟨Nat.zero_le _, Nat.zero_le _⟩ (fun H locs hP hD hS => ?_)
    refine lv_if_eq (tgt := 80) hx hb dX8_readBehind_52 (by decide) (fun cz => ?_) (fun cz => ?_)
    · have h := g_t h cz
      refine lv_iconst (v := 1) hx hb dX8_readBehind_80 (by decide) ?_
      have h' := Option.some.inj h
      rw [← hQQ]
      exact W.zret (v := (1 : Int32)) hx hb hr rfl (fun t ht hW => ⟨⟨(1 : Int32), (), rfl, by rw [← h'], by rw [← hWQ, ← h', ht]; exact hP, va_K.moved hW.alike hK⟩, hS.F ht⟩) hS.2.2 dX8_readBehind_81
    · have h := g_f h cz
      refine lv_aload_n hx hb dX8_readBehind_55 rfl (lv_at hl 1 rfl) ?_
      refine va_get (D := (dC, dI)) (ci := 8) (v := .ref (ad 4)) (C := RX8) (T := TX8) (N := 78) hx hb hts ki8 hown hK hP 0 rfl rfl 9 (by decide) kf21 (fun _ h9 => h9) rfl dX8_readBehind_56 ?_
      refine lv_iload_n hx hb dX8_readBehind_59 rfl (lv_at hl 0 rfl) ?_
      refine lv_aload_n hx hb dX8_readBehind_60 rfl (lv_at hl 1 rfl) ?_
      refine va_get (D := (dC, dI)) (ci := 8) (v := .int ((x_iM 55))) (C := RX8) (T := TX8) (N := 78) hx hb hts ki8 hown hK hP 0 rfl rfl 55 (by decide) kf251 (fun _ h9 => h9) rfl dX8_readBehind_61 ?_
      obtain ⟨g_83, h⟩ := g_n h
      refine va_iast (f := q44.2.2.2.2.2.1) hx hb hK hP hD hS 4 0 rfl rfl g_83 dX8_readBehind_64 (fun H locs hP hD hS => ?_)
      have hP : va_P (dC, dI) vwCl (zzM ad cy (us x_iM [(38, q44.2.1), (46, q44.2.2.1), (47, q44.2.2.2.1)]) (us x_aM [(8, q44.2.2.2.2.1), (9, (upd q44.2.2.2.2.2.1 q44.1.toNatClampNeg ((x_iM 55)))), (10, q44.2.2.2.2.2.2.1), (11, q44.2.2.2.2.2.2.2.1), (12, q44.2.2.2.2.2.2.2.2)])) H := Eq.mp (congrArg (fun w => va_P (dC, dI) vwCl w H) (stM_aM9 ad cy (us x_iM [(38, q44.2.1), (46, q44.2.2.1), (47, q44.2.2.2.1)]) x_aM [(8, q44.2.2.2.2.1), (9, q44.2.2.2.2.2.1), (10, q44.2.2.2.2.2.2.1), (11, q44.2.2.2.2.2.2.2.1), (12, q44.2.2.2.2.2.2.2.2)] ((upd q44.2.2.2.2.2.1 q44.1.toNatClampNeg ((x_iM 55)))))) hP
      have hD : va_D A (zzM ad cy (us x_iM [(38, q44.2.1), (46, q44.2.2.1), (47, q44.2.2.2.1)]) (us x_aM [(8, q44.2.2.2.2.1), (9, (upd q44.2.2.2.2.2.1 q44.1.toNatClampNeg ((x_iM 55)))), (10, q44.2.2.2.2.2.2.1), (11, q44.2.2.2.2.2.2.2.1), (12, q44.2.2.2.2.2.2.2.2)])) := Eq.mp (congrArg (fun w => va_D A w) (stM_aM9 ad cy (us x_iM [(38, q44.2.1), (46, q44.2.2.1), (47, q44.2.2.2.1)]) x_aM [(8, q44.2.2.2.2.1), (9, q44.2.2.2.2.2.1), (10, q44.2.2.2.2.2.2.1), (11, q44.2.2.2.2.2.2.2.1), (12, q44.2.2.2.2.2.2.2.2)] ((upd q44.2.2.2.2.2.1 q44.1.toNatClampNeg ((x_iM 55)))))) hD
      refine lv_aload_n hx hb dX8_readBehind_65 rfl (lv_at hl 1 rfl) ?_
      refine lv_iconst (v := 3) hx hb dX8_readBehind_66 (by decide) ?_
      refine lv_iload_n hx hb dX8_readBehind_67 rfl (lv_at hl 0 rfl) ?_
      obtain ⟨q68, e68, h⟩ := g_b h
      refine callVvs (cc := cX8_readBehind) (w1 := zzM ad cy (us x_iM [(38, q44.2.1), (46, q44.2.2.1), (47, q44.2.2.2.1), (54, q68.1)]) (us x_aM [(8, q44.2.2.2.2.1), (9, (upd q44.2.2.2.2.2.1 q44.1.toNatClampNeg ((x_iM 55)))), (10, q44.2.2.2.2.2.2.1), (11, q44.2.2.2.2.2.2.2.1), (12, q44.2.2.2.2.2.2.2.2), (52, q68.2.1), (53, q68.2.2)])) (As := [.int ((3 : Int32)), .int q44.1]) (rest := []) ⟨hx, hb, hml, hown, hts⟩ (c_M_wait l dC dI cy ad H.size ((3 : Int32)) q44.1 ((us x_iM [(38, q44.2.1), (46, q44.2.2.1), (47, q44.2.2.2.1)])) ((us x_aM [(8, q44.2.2.2.2.1), (9, (upd q44.2.2.2.2.2.1 q44.1.toNatClampNeg ((x_iM 55)))), (10, q44.2.2.2.2.2.2.1), (11, q44.2.2.2.2.2.2.2.1), (12, q44.2.2.2.2.2.2.2.2)])) q68 e68) (cwV 2 hts (goodV m_ml_X8_270 m_im_X8_wait m_se_X8_wait m_in_X8 m_cd_X8_wait) rfl rfl rfl (by decide +kernel) ⟨Nat.le_of_ble_eq_true rfl, Nat.le_of_ble_eq_true rfl⟩) hN hK hP hD hS hA rfl 0 rfl rfl rfl hl.1 rfl (Nat.le_of_ble_eq_true rfl) dX8_readBehind_68 ⟨Nat.zero_le _, Nat.zero_le _⟩ (fun H locs hP hD hS => ?_)
      refine lv_aload_n hx hb dX8_readBehind_71 rfl (lv_at hl 1 rfl) ?_
      obtain ⟨q72, e72, h⟩ := g_b h
      refine callVvs (cc := cX8_readBehind) (w1 := zzM ad cy (us x_iM [(2, q72.1), (3, q72.2.1), (4, q72.2.2.1), (5, q72.2.2.2.1), (6, q72.2.2.2.2), (38, q44.2.1), (46, q44.2.2.1), (47, q44.2.2.2.1), (54, q68.1)]) (us x_aM [(8, q44.2.2.2.2.1), (9, (upd q44.2.2.2.2.2.1 q44.1.toNatClampNeg ((x_iM 55)))), (10, q44.2.2.2.2.2.2.1), (11, q44.2.2.2.2.2.2.2.1), (12, q44.2.2.2.2.2.2.2.2), (52, q68.2.1), (53, q68.2.2)])) (As := []) (rest := []) ⟨hx, hb, hml, hown, hts⟩ (c_M_next l dC dI cy ad H.size N ((us x_iM [(38, q44.2.1), (46, q44.2.2.1), (47, q44.2.2.2.1), (54, q68.1)])) ((us x_aM [(8, q44.2.2.2.2.1), (9, (upd q44.2.2.2.2.2.1 q44.1.toNatClampNeg ((x_iM 55)))), (10, q44.2.2.2.2.2.2.1), (11, q44.2.2.2.2.2.2.2.1), (12, q44.2.2.2.2.2.2.2.2), (52, q68.2.1), (53, q68.2.2)])) q72 e72) (cwV 0 hts (goodV m_ml_X8_205 m_im_X8_next m_se_X8_next m_in_X8 m_cd_X8_next) rfl rfl rfl (by decide +kernel) ⟨Nat.le_of_ble_eq_true rfl, Nat.le_of_ble_eq_true rfl⟩) hN hK hP hD hS hA rfl 0 rfl rfl rfl hl.1 rfl (Nat.le_of_ble_eq_true rfl) dX8_readBehind_72 ⟨Nat.zero_le _, Nat.zero_le _⟩ (fun H locs hP hD hS => ?_)
      refine lv_aload_n hx hb dX8_readBehind_75 rfl (lv_at hl 1 rfl) ?_
      refine lv_iconst (v := 1) hx hb dX8_readBehind_76 (by decide) ?_
      refine va_put (D := (dC, dI)) (ci := 8) (v := .int ((1 : Int32))) (ty := .boolean) (C := RX8) (T := TX8) (N := 78) hx hb hts ki8 tyX8 tyX8_ok nmX8 hown hK hP hD hS 0 rfl rfl 56 (by decide) kf263 (fun _ h9 => h9) rfl (by decide +kernel) rfl rfl (Nat.le_of_ble_eq_true rfl) dX8_readBehind_77 (fun H locs hP hD hS => ?_)
      have hP : va_P (dC, dI) vwCl (zzM ad cy (us x_iM [(2, q72.1), (3, q72.2.1), (4, q72.2.2.1), (5, q72.2.2.2.1), (6, q72.2.2.2.2), (38, q44.2.1), (46, q44.2.2.1), (47, q44.2.2.2.1), (54, q68.1), (56, (1 : Int32))]) (us x_aM [(8, q44.2.2.2.2.1), (9, (upd q44.2.2.2.2.2.1 q44.1.toNatClampNeg ((x_iM 55)))), (10, q44.2.2.2.2.2.2.1), (11, q44.2.2.2.2.2.2.2.1), (12, q44.2.2.2.2.2.2.2.2), (52, q68.2.1), (53, q68.2.2)])) H := Eq.mp (congrArg (fun w => va_P (dC, dI) vwCl w H) (stM_iM56 ad cy x_iM (us x_aM [(8, q44.2.2.2.2.1), (9, (upd q44.2.2.2.2.2.1 q44.1.toNatClampNeg ((x_iM 55)))), (10, q44.2.2.2.2.2.2.1), (11, q44.2.2.2.2.2.2.2.1), (12, q44.2.2.2.2.2.2.2.2), (52, q68.2.1), (53, q68.2.2)]) [(2, q72.1), (3, q72.2.1), (4, q72.2.2.1), (5, q72.2.2.2.1), (6, q72.2.2.2.2), (38, q44.2.1), (46, q44.2.2.1), (47, q44.2.2.2.1), (54, q68.1)] ((1 : Int32)))) hP
      have hD : va_D A (zzM ad cy (us x_iM [(2, q72.1), (3, q72.2.1), (4, q72.2.2.1), (5, q72.2.2.2.1), (6, q72.2.2.2.2), (38, q44.2.1), (46, q44.2.2.1), (47, q44.2.2.2.1), (54, q68.1), (56, (1 : Int32))]) (us x_aM [(8, q44.2.2.2.2.1), (9, (upd q44.2.2.2.2.2.1 q44.1.toNatClampNeg ((x_iM 55)))), (10, q44.2.2.2.2.2.2.1), (11, q44.2.2.2.2.2.2.2.1), (12, q44.2.2.2.2.2.2.2.2), (52, q68.2.1), (53, q68.2.2)])) := Eq.mp (congrArg (fun w => va_D A w) (stM_iM56 ad cy x_iM (us x_aM [(8, q44.2.2.2.2.1), (9, (upd q44.2.2.2.2.2.1 q44.1.toNatClampNeg ((x_iM 55)))), (10, q44.2.2.2.2.2.2.1), (11, q44.2.2.2.2.2.2.2.1), (12, q44.2.2.2.2.2.2.2.2), (52, q68.2.1), (53, q68.2.2)]) [(2, q72.1), (3, q72.2.1), (4, q72.2.2.1), (5, q72.2.2.2.1), (6, q72.2.2.2.2), (38, q44.2.1), (46, q44.2.2.1), (47, q44.2.2.2.1), (54, q68.1)] ((1 : Int32)))) hD
      refine lv_iconst (v := 1) hx hb dX8_readBehind_80 (by decide) ?_
      have h' := Option.some.inj h
      rw [← hQQ]
      exact W.zret (v := (1 : Int32)) hx hb hr rfl (fun t ht hW => ⟨⟨(1 : Int32), (), rfl, by rw [← h'], by rw [← hWQ, ← h', ht]; exact hP, va_K.moved hW.alike hK⟩, hS.F ht⟩) hS.2.2 dX8_readBehind_81
  have B28 : ∀ (v1 : Int32) (s1 : Int32) (H : Heap) (locs : List Loc) (ls : Array Slot), f_M_readBehind_28 N iM aM v1 s1 = some q → va_P (dC, dI) vwCl (zzM ad cy iM aM) H → va_D A (zzM ad cy iM aM) → va_S A s.heap H locs → lv_has ls 3 [(0, .ref (ad 0)), (1, .int v1)] → W p l e ({ frames := 4, cells := 0, slots := 0, locals := 93 } : Room) s m args below meth c H locs 0 0 QQ (F0 m 28 ls [.int s1, .ref (ad 0)]) := by
    intro v1 s1 H locs ls h hP hD hS hl
    unfold f_M_readBehind_28 at h
    obtain ⟨q28, e28, h⟩ := g_b h
    refine callVvs (cc := cX8_readBehind) (w1 := zzM ad cy (us iM [(39, q28.1), (54, q28.2.1), (55, q28.2.2.1)]) (us aM [(10, q28.2.2.2.1), (13, q28.2.2.2.2)])) (As := [.int s1]) (rest := []) ⟨hx, hb, hml, hown, hts⟩ (c_M_close l dC dI cy ad H.size N s1 iM aM q28 e28) (cwV 1 hts (goodV m_ml_X8_286 m_im_X8_close m_se_X8_close m_in_X8 m_cd_X8_close) rfl rfl rfl (by decide +kernel) ⟨Nat.le_of_ble_eq_true rfl, Nat.le_of_ble_eq_true rfl⟩) hN hK hP hD hS hA rfl 0 rfl rfl rfl hl.1 rfl (Nat.le_of_ble_eq_true rfl) dX8_readBehind_28 ⟨Nat.zero_le _, Nat.zero_le _⟩ (fun H locs hP hD hS => ?_)
    refine lv_aload_n hx hb dX8_readBehind_31 rfl (lv_at hl 0 rfl) ?_
    refine lv_iload_n hx hb dX8_readBehind_32 rfl (lv_at hl 1 rfl) ?_
    refine lv_iconst (v := 4) hx hb dX8_readBehind_33 (by decide) ?_
    refine lv_icmp_ne (tgt := 42) hx hb dX8_readBehind_34 (by decide) (fun cz => ?_) (fun cz => ?_)
    · have h := g_f h cz
      refine lv_bipush (v := 7) hx hb dX8_readBehind_42 (by decide) ?_
      exact B44 ((7 : Int32)) ((us iM [(39, q28.1), (54, q28.2.1), (55, q28.2.2.1)])) ((us aM [(10, q28.2.2.2.1), (13, q28.2.2.2.2)])) H locs ls h hP hD hS (lv_sub hl [0] rfl)
    · have h := g_t h cz
      refine lv_bipush (v := 6) hx hb dX8_readBehind_37 (by decide) ?_
      refine lv_goto (tgt := 44) hx hb dX8_readBehind_39 (by decide) ?_
      exact B44 ((6 : Int32)) ((us iM [(39, q28.1), (54, q28.2.1), (55, q28.2.2.1)])) ((us aM [(10, q28.2.2.2.1), (13, q28.2.2.2.2)])) H locs ls h hP hD hS (lv_sub hl [0] rfl)
  have B15 : ∀ (v1 : Int32) (H : Heap) (locs : List Loc) (ls : Array Slot), f_M_readBehind_15 N iM aM v1 = some q → va_P (dC, dI) vwCl (zzM ad cy iM aM) H → va_D A (zzM ad cy iM aM) → va_S A s.heap H locs → lv_has ls 3 [(0, .ref (ad 0)), (1, .int v1)] → W p l e ({ frames := 4, cells := 0, slots := 0, locals := 93 } : Room) s m args below meth c H locs 0 0 QQ (F0 m 15 ls []) := by
    intro v1 H locs ls h hP hD hS hl
    unfold f_M_readBehind_15 at h
    refine lv_aload_n hx hb dX8_readBehind_15 rfl (lv_at hl 0 rfl) ?_
    refine lv_iload_n hx hb dX8_readBehind_16 rfl (lv_at hl 1 rfl) ?_
    refine lv_iconst (v := 4) hx hb dX8_readBehind_17 (by decide) ?_
    refine lv_icmp_ne (tgt := 26) hx hb dX8_readBehind_18 (by decide) (fun cz => ?_) (fun cz => ?_)
    · have h := g_f h cz
      refine lv_bipush (v := 7) hx hb dX8_readBehind_26 (by decide) ?_
      exact B28 v1 ((7 : Int32)) H locs ls h hP hD hS (lv_sub hl [0, 1] rfl)
    · have h := g_t h cz
      refine lv_bipush (v := 6) hx hb dX8_readBehind_21 (by decide) ?_
      refine lv_goto (tgt := 28) hx hb dX8_readBehind_23 (by decide) ?_
      exact B28 v1 ((6 : Int32)) H locs ls h hP hD hS (lv_sub hl [0, 1] rfl)
  intro H locs hP hD hS
  unfold f_M_readBehind at h
  refine lv_aload_n hx hb dX8_readBehind_0 rfl (lv_at hl 0 rfl) ?_
  obtain ⟨q1, e1, h⟩ := g_b h
  refine callVis (cc := cX8_readBehind) (w1 := zzM ad cy iM aM) (As := []) (rest := []) ⟨hx, hb, hml, hown, hts⟩ (c_M_kept l dC dI cy ad H.size N iM aM q1 e1) (cwV 0 hts (goodV m_ml_X8_224 m_im_X8_kept m_se_X8_kept m_in_X8 m_cd_X8_kept) rfl rfl rfl (by decide +kernel) ⟨Nat.le_of_ble_eq_true rfl, Nat.le_of_ble_eq_true rfl⟩) hN hK hP hD hS hA rfl 0 rfl rfl rfl hl.1 rfl (Nat.le_of_ble_eq_true rfl) dX8_readBehind_1 ⟨Nat.zero_le _, Nat.zero_le _⟩ (fun H locs hP hD hS => ?_)
  refine lv_istore_n (lv' := [(1, .int q1), (0, .ref (ad 0))]) hx hb dX8_readBehind_4 rfl hl (by decide) rfl (fun ls hl => ?_)
  refine lv_iload_n hx hb dX8_readBehind_5 rfl (lv_at hl 0 rfl) ?_
  refine lv_iconst (v := 4) hx hb dX8_readBehind_6 (by decide) ?_
  refine lv_icmp_eq (tgt := 15) hx hb dX8_readBehind_7 (by decide) (fun cz => ?_) (fun cz => ?_)
  · have h := g_t h cz
    exact B15 q1 H locs ls h hP hD hS (lv_sub hl [1, 0] rfl)
  · have h := g_f h cz
    refine lv_iload_n hx hb dX8_readBehind_10 rfl (lv_at hl 0 rfl) ?_
    refine lv_iconst (v := 3) hx hb dX8_readBehind_11 (by decide) ?_
    refine lv_icmp_ne (tgt := 82) hx hb dX8_readBehind_12 (by decide) (fun cz => ?_) (fun cz => ?_)
    · have h := g_f h cz
      refine lv_aload_n hx hb dX8_readBehind_82 rfl (lv_at hl 1 rfl) ?_
      refine lv_bipush (v := 7) hx hb dX8_readBehind_83 (by decide) ?_
      obtain ⟨q85, e85, h⟩ := g_b h
      refine callVvs (cc := cX8_readBehind) (w1 := zzM ad cy (us iM [(39, q85.1), (54, q85.2.1), (55, q85.2.2.1)]) (us aM [(10, q85.2.2.2.1), (13, q85.2.2.2.2)])) (As := [.int ((7 : Int32))]) (rest := []) ⟨hx, hb, hml, hown, hts⟩ (c_M_close l dC dI cy ad H.size N ((7 : Int32)) iM aM q85 e85) (cwV 1 hts (goodV m_ml_X8_286 m_im_X8_close m_se_X8_close m_in_X8 m_cd_X8_close) rfl rfl rfl (by decide +kernel) ⟨Nat.le_of_ble_eq_true rfl, Nat.le_of_ble_eq_true rfl⟩) hN hK hP hD hS hA rfl 0 rfl rfl rfl hl.1 rfl (Nat.le_of_ble_eq_true rfl) dX8_readBehind_85 ⟨Nat.zero_le _, Nat.zero_le _⟩ (fun H locs hP hD hS => ?_)
      refine lv_aload_n hx hb dX8_readBehind_88 rfl (lv_at hl 1 rfl) ?_
      refine va_get (D := (dC, dI)) (ci := 8) (v := .ref (ad 27)) (C := RX8) (T := TX8) (N := 78) hx hb hts ki8 hown hK hP 0 rfl rfl 52 (by decide) kf95 (fun _ h9 => h9) rfl dX8_readBehind_89 ?_
      refine lv_aload_n hx hb dX8_readBehind_92 rfl (lv_at hl 1 rfl) ?_
      refine va_get (D := (dC, dI)) (ci := 8) (v := .int q85.2.1) (C := RX8) (T := TX8) (N := 78) hx hb hts ki8 hown hK hP 0 rfl rfl 54 (by decide) kf248 (fun _ h9 => h9) rfl dX8_readBehind_93 ?_
      refine lv_iconst (v := 1) hx hb dX8_readBehind_96 (by decide) ?_
      refine lv_isub hx hb dX8_readBehind_97 ?_
      obtain ⟨g_84, h⟩ := g_n h
      refine va_iald (f := (aM 52)) hx hb hK hP 27 0 rfl rfl g_84 dX8_readBehind_98 ?_
      refine lv_if_ne (tgt := 104) hx hb dX8_readBehind_99 (by decide) (fun cz => ?_) (fun cz => ?_)
      · have h := g_f h cz
        refine lv_aload_n hx hb dX8_readBehind_104 rfl (lv_at hl 1 rfl) ?_
        refine lv_bipush (v := 41) hx hb dX8_readBehind_105 (by decide) ?_
        obtain ⟨q107, e107, h⟩ := g_b h
        refine callVis (cc := cX8_readBehind) (w1 := zzM ad cy (us iM [(39, q85.1), (54, q85.2.1), (55, q85.2.2.1)]) (us aM [(10, q85.2.2.2.1), (13, q85.2.2.2.2)])) (As := [.int ((41 : Int32))]) (rest := []) ⟨hx, hb, hml, hown, hts⟩ (c_M_isSignHere l dC dI cy ad H.size ((41 : Int32)) ((us iM [(39, q85.1), (54, q85.2.1), (55, q85.2.2.1)])) ((us aM [(10, q85.2.2.2.1), (13, q85.2.2.2.2)])) q107 e107) (cwV 1 hts (goodV m_ml_X8_202 m_im_X8_isSignHere m_se_X8_isSignHere m_in_X8 m_cd_X8_isSignHere) rfl rfl rfl (by decide +kernel) ⟨Nat.le_of_ble_eq_true rfl, Nat.le_of_ble_eq_true rfl⟩) hN hK hP hD hS hA rfl 0 rfl rfl rfl hl.1 rfl (Nat.le_of_ble_eq_true rfl) dX8_readBehind_107 ⟨Nat.zero_le _, Nat.zero_le _⟩ (fun H locs hP hD hS => ?_)
        refine lv_if_eq (tgt := 148) hx hb dX8_readBehind_110 (by decide) (fun cz => ?_) (fun cz => ?_)
        · have h := g_t h cz
          refine lv_aload_n hx hb dX8_readBehind_148 rfl (lv_at hl 1 rfl) ?_
          obtain ⟨q149, e149, h⟩ := g_b h
          refine callVvs (cc := cX8_readBehind) (w1 := zzM ad cy (us iM [(39, q85.1), (46, q149.1), (47, q149.2), (54, q85.2.1), (55, q85.2.2.1)]) (us aM [(10, q85.2.2.2.1), (13, q85.2.2.2.2)])) (As := []) (rest := []) ⟨hx, hb, hml, hown, hts⟩ (c_M_misplaced l dC dI cy ad H.size ((us iM [(39, q85.1), (54, q85.2.1), (55, q85.2.2.1)])) ((us aM [(10, q85.2.2.2.1), (13, q85.2.2.2.2)])) q149 e149) (cwV 0 hts (goodV m_ml_X8_208 m_im_X8_misplaced m_se_X8_misplaced m_in_X8 m_cd_X8_misplaced) rfl rfl rfl (by decide +kernel) ⟨Nat.le_of_ble_eq_true rfl, Nat.le_of_ble_eq_true rfl⟩) hN hK hP hD hS hA rfl 0 rfl rfl rfl hl.1 rfl (Nat.le_of_ble_eq_true rfl) dX8_readBehind_149 ⟨Nat.zero_le _, Nat.zero_le _⟩ (fun H locs hP hD hS => ?_)
          refine lv_iconst (v := 1) hx hb dX8_readBehind_152 (by decide) ?_
          have h' := Option.some.inj h
          rw [← hQQ]
          exact W.zret (v := (1 : Int32)) hx hb hr rfl (fun t ht hW => ⟨⟨(1 : Int32), (), rfl, by rw [← h'], by rw [← hWQ, ← h', ht]; exact hP, va_K.moved hW.alike hK⟩, hS.F ht⟩) hS.2.2 dX8_readBehind_153
        · have h := g_f h cz
          refine lv_aload_n hx hb dX8_readBehind_113 rfl (lv_at hl 1 rfl) ?_
          refine lv_dup hx hb dX8_readBehind_114 rfl ?_
          refine va_get (D := (dC, dI)) (ci := 8) (v := .int q85.2.1) (C := RX8) (T := TX8) (N := 78) hx hb hts ki8 hown hK hP 0 rfl rfl 54 (by decide) kf248 (fun _ h9 => h9) rfl dX8_readBehind_115 ?_
          refine lv_iconst (v := 1) hx hb dX8_readBehind_118 (by decide) ?_
          refine lv_isub hx hb dX8_readBehind_119 ?_
          refine va_put (D := (dC, dI)) (ci := 8) (v := .int ((q85.2.1 - (1 : Int32)))) (ty := .int) (C := RX8) (T := TX8) (N := 78) hx hb hts ki8 tyX8 tyX8_ok nmX8 hown hK hP hD hS 0 rfl rfl 54 (by decide) kf248 (fun _ h9 => h9) rfl (by decide +kernel) rfl rfl (Nat.le_of_ble_eq_true rfl) dX8_readBehind_120 (fun H locs hP hD hS => ?_)
          have hP : va_P (dC, dI) vwCl (zzM ad cy (us iM [(39, q85.1), (54, (q85.2.1 - (1 : Int32))), (55, q85.2.2.1)]) (us aM [(10, q85.2.2.2.1), (13, q85.2.2.2.2)])) H := Eq.mp (congrArg (fun w => va_P (dC, dI) vwCl w H) (stM_iM54 ad cy iM (us aM [(10, q85.2.2.2.1), (13, q85.2.2.2.2)]) [(39, q85.1), (54, q85.2.1), (55, q85.2.2.1)] ((q85.2.1 - (1 : Int32))))) hP
          have hD : va_D A (zzM ad cy (us iM [(39, q85.1), (54, (q85.2.1 - (1 : Int32))), (55, q85.2.2.1)]) (us aM [(10, q85.2.2.2.1), (13, q85.2.2.2.2)])) := Eq.mp (congrArg (fun w => va_D A w) (stM_iM54 ad cy iM (us aM [(10, q85.2.2.2.1), (13, q85.2.2.2.2)]) [(39, q85.1), (54, q85.2.1), (55, q85.2.2.1)] ((q85.2.1 - (1 : Int32))))) hD
          refine lv_aload_n hx hb dX8_readBehind_123 rfl (lv_at hl 1 rfl) ?_
          refine lv_dup hx hb dX8_readBehind_124 rfl ?_
          refine va_get (D := (dC, dI)) (ci := 8) (v := .int ((iM 49))) (C := RX8) (T := TX8) (N := 78) hx hb hts ki8 hown hK hP 0 rfl rfl 49 (by decide) kf254 (fun _ h9 => h9) rfl dX8_readBehind_125 ?_
          refine lv_iconst (v := 1) hx hb dX8_readBehind_128 (by decide) ?_
          refine lv_isub hx hb dX8_readBehind_129 ?_
          refine va_put (D := (dC, dI)) (ci := 8) (v := .int (((iM 49) - (1 : Int32)))) (ty := .int) (C := RX8) (T := TX8) (N := 78) hx hb hts ki8 tyX8 tyX8_ok nmX8 hown hK hP hD hS 0 rfl rfl 49 (by decide) kf254 (fun _ h9 => h9) rfl (by decide +kernel) rfl rfl (Nat.le_of_ble_eq_true rfl) dX8_readBehind_130 (fun H locs hP hD hS => ?_)
          have hP : va_P (dC, dI) vwCl (zzM ad cy (us iM [(39, q85.1), (49, ((iM 49) - (1 : Int32))), (54, (q85.2.1 - (1 : Int32))), (55, q85.2.2.1)]) (us aM [(10, q85.2.2.2.1), (13, q85.2.2.2.2)])) H := Eq.mp (congrArg (fun w => va_P (dC, dI) vwCl w H) (stM_iM49 ad cy iM (us aM [(10, q85.2.2.2.1), (13, q85.2.2.2.2)]) [(39, q85.1), (54, (q85.2.1 - (1 : Int32))), (55, q85.2.2.1)] (((iM 49) - (1 : Int32))))) hP
          have hD : va_D A (zzM ad cy (us iM [(39, q85.1), (49, ((iM 49) - (1 : Int32))), (54, (q85.2.1 - (1 : Int32))), (55, q85.2.2.1)]) (us aM [(10, q85.2.2.2.1), (13, q85.2.2.2.2)])) := Eq.mp (congrArg (fun w => va_D A w) (stM_iM49 ad cy iM (us aM [(10, q85.2.2.2.1), (13, q85.2.2.2.2)]) [(39, q85.1), (54, (q85.2.1 - (1 : Int32))), (55, q85.2.2.1)] (((iM 49) - (1 : Int32))))) hD
          refine lv_aload_n hx hb dX8_readBehind_133 rfl (lv_at hl 1 rfl) ?_
          obtain ⟨q134, e134, h⟩ := g_b h
          refine callVvs (cc := cX8_readBehind) (w1 := zzM ad cy (us iM [(2, q134.1), (3, q134.2.1), (4, q134.2.2.1), (5, q134.2.2.2.1), (6, q134.2.2.2.2), (39, q85.1), (49, ((iM 49) - (1 : Int32))), (54, (q85.2.1 - (1 : Int32))), (55, q85.2.2.1)]) (us aM [(10, q85.2.2.2.1), (13, q85.2.2.2.2)])) (As := []) (rest := []) ⟨hx, hb, hml, hown, hts⟩ (c_M_next l dC dI cy ad H.size N ((us iM [(39, q85.1), (49, ((iM 49) - (1 : Int32))), (54, (q85.2.1 - (1 : Int32))), (55, q85.2.2.1)])) ((us aM [(10, q85.2.2.2.1), (13, q85.2.2.2.2)])) q134 e134) (cwV 0 hts (goodV m_ml_X8_205 m_im_X8_next m_se_X8_next m_in_X8 m_cd_X8_next) rfl rfl rfl (by decide +kernel) ⟨Nat.le_of_ble_eq_true rfl, Nat.le_of_ble_eq_true rfl⟩) hN hK hP hD hS hA rfl 0 rfl rfl rfl hl.1 rfl (Nat.le_of_ble_eq_true rfl) dX8_readBehind_134 ⟨Nat.zero_le _, Nat.zero_le _⟩ (fun H locs hP hD hS => ?_)
          refine lv_aload_n hx hb dX8_readBehind_137 rfl (lv_at hl 1 rfl) ?_
          refine lv_aload_n hx hb dX8_readBehind_138 rfl (lv_at hl 1 rfl) ?_
          refine va_get (D := (dC, dI)) (ci := 8) (v := .int q85.2.2.1) (C := RX8) (T := TX8) (N := 78) hx hb hts ki8 hown hK hP 0 rfl rfl 55 (by decide) kf251 (fun _ h9 => h9) rfl dX8_readBehind_139 ?_
          obtain ⟨q142, e142, h⟩ := g_b h
          refine callVvs (cc := cX8_readBehind) (w1 := zzM ad cy q142.1 q142.2) (As := [.int q85.2.2.1]) (rest := []) ⟨hx, hb, hml, hown, hts⟩ (c_M_stand l dC dI cy ad H.size N q85.2.2.1 ((us iM [(2, q134.1), (3, q134.2.1), (4, q134.2.2.1), (5, q134.2.2.2.1), (6, q134.2.2.2.2), (39, q85.1), (49, ((iM 49) - (1 : Int32))), (54, (q85.2.1 - (1 : Int32))), (55, q85.2.2.1)])) ((us aM [(10, q85.2.2.2.1), (13, q85.2.2.2.2)])) q142 e142) (cwV 1 hts (goodV m_ml_X8_283 m_im_X8_stand m_se_X8_stand m_in_X8 m_cd_X8_stand) rfl rfl rfl (by decide +kernel) ⟨Nat.le_of_ble_eq_true rfl, Nat.le_of_ble_eq_true rfl⟩) hN hK hP hD hS hA rfl 0 rfl rfl rfl hl.1 rfl (Nat.le_of_ble_eq_true rfl) dX8_readBehind_142 ⟨Nat.zero_le _, Nat.zero_le _⟩ (fun H locs hP hD hS => ?_)
          refine lv_goto (tgt := 152) hx hb dX8_readBehind_145 (by decide) ?_
          refine lv_iconst (v := 1) hx hb dX8_readBehind_152 (by decide) ?_
          have h' := Option.some.inj h
          rw [← hQQ]
          exact W.zret (v := (1 : Int32)) hx hb hr rfl (fun t ht hW => ⟨⟨(1 : Int32), (), rfl, by rw [← h'], by rw [← hWQ, ← h', ht]; exact hP, va_K.moved hW.alike hK⟩, hS.F ht⟩) hS.2.2 dX8_readBehind_153
      · have h := g_t h cz
        refine lv_iconst (v := 0) hx hb dX8_readBehind_102 (by decide) ?_
        have h' := Option.some.inj h
        rw [← hQQ]
        exact W.zret (v := (0 : Int32)) hx hb hr rfl (fun t ht hW => ⟨⟨(0 : Int32), (), rfl, by rw [← h'], by rw [← hWQ, ← h', ht]; exact hP, va_K.moved hW.alike hK⟩, hS.F ht⟩) hS.2.2 dX8_readBehind_103
    · have h := g_t h cz
      exact B15 q1 H locs ls h hP hD hS (lv_sub hl [1, 0] rfl)
set_option maxHeartbeats 8000000 in
set_option maxRecDepth 100000 in
theorem c_M_readConcept (l : Launch) (dC : Nat → ClassId) (dI : Nat → Nat → Nat) (cy : Nat → ClassId) (ad : Nat → Nat) (sz : Nat) (N : Nat) (iM : Nat → Int32) (aM : Nat → Nat → Int32) (q : Int32 × (Nat → Int32) × (Nat → Nat → Int32)) (h : f_M_readConcept N iM aM = some q) : Met l yX8_readConcept wsX8_readConcept ({ frames := 5, cells := 0, slots := 0, locals := 115 } : Room) (cP (dC, dI) cy [.ref (ad 0)] (zzM ad cy iM aM) sz) (cQi (dC, dI) cy q.1 (zzM ad cy q.2.1 q.2.2) (va_A (zzM ad cy iM aM) sz)) 0 0 (va_A (zzM ad cy iM aM) sz) := by
  refine Met.ofW (cc := cX8_readConcept) (maxL := 2) (ret := (some .int)) (by decide) rfl ?_
  intro p e s m args below meth c s₁ B hml hv
  obtain ⟨hav, hsz, hP, hK, hD0, hN⟩ := hv
  have hx := B.exec
  have hb := B.bytes
  have hr := B.returns
  have hts := atoms_spec (ws := wsX8_readConcept) B.pre
  have hown : s.vm.findClass RX8 = some m.cls := findClass_of_methodNamed B.named
  have hlocks := B.notSynchronized
  subst hsz
  have hD := hD0.self (sz := s.heap.size)
  generalize hAe : va_A (zzM ad cy iM aM) s.heap.size = A at hD ⊢
  have hA : ∀ q : Nat, s.heap.size ≤ q → A q := fun q h => by rw [← hAe]; exact Or.inr h
  have hS : va_S A s.heap s.heap [] := va_S.rf
  generalize hWQ : (zzM ad cy q.2.1 q.2.2) = WQ
  generalize hQQ : MQ below (cQi (dC, dI) cy q.1 WQ A) args s 0 0 A = QQ
  have hl := lv_entry ([.ref (ad 0)] : List Value) (n := 2) (Nat.le_of_ble_eq_true rfl)
  have hfr := lg_entry_eq m ([.ref (ad 0)] : List Value) 2
  rw [← hav] at hfr
  rw [hfr]
  clear hfr hav
  generalize (lg_sl ([.ref (ad 0)] : List Value) ++ List.replicate (2 - (lg_sl ([.ref (ad 0)] : List Value)).length) Slot.unset).toArray = ls at hl ⊢
  have hl : lv_has ls 2 [(0, .ref (ad 0))] := hl
  have kf251 := hts _ (List.mem_cons_of_mem _ m_fl_X8_251)
  have ki8 := (fun w h => List.mem_cons_of_mem _ (i_X8 w h) : ∀ w ∈ u_ws RX8 TX8 78, w ∈ wsX8_readConcept)
  have kf263 := hts _ (List.mem_cons_of_mem _ m_fl_X8_263)
  have kf248 := hts _ (List.mem_cons_of_mem _ m_fl_X8_248)
  have kf254 := hts _ (List.mem_cons_of_mem _ m_fl_X8_254)
  refine (?_ : ∀ (H : Heap) (locs : List Loc), va_P (dC, dI) vwCl (zzM ad cy iM aM) H → va_D A (zzM ad cy iM aM) → va_S A s.heap H locs → W p l e ({ frames := 5, cells := 0, slots := 0, locals := 115 } : Room) s m args below meth c H locs 0 0 QQ (F0 m 0 ls [])) s.heap [] hP hD hS
  clear hP hD hS
  have B61 : ∀ (x_iM : Nat → Int32) (x_aM : Nat → Nat → Int32) (H : Heap) (locs : List Loc) (ls : Array Slot), f_M_readConcept_61 N iM aM x_iM x_aM = some q → va_P (dC, dI) vwCl (zzM ad cy x_iM x_aM) H → va_D A (zzM ad cy x_iM x_aM) → va_S A s.heap H locs → lv_has ls 2 [(0, .ref (ad 0))] → W p l e ({ frames := 5, cells := 0, slots := 0, locals := 115 } : Room) s m args below meth c H locs 0 0 QQ (F0 m 61 ls []) := by
    intro x_iM x_aM H locs ls h hP hD hS hl
    unfold f_M_readConcept_61 at h
    refine lv_aload_n hx hb dX8_readConcept_61 rfl (lv_at hl 0 rfl) ?_
    refine va_get (D := (dC, dI)) (ci := 8) (v := .int ((x_iM 55))) (C := RX8) (T := TX8) (N := 78) hx hb hts ki8 hown hK hP 0 rfl rfl 55 (by decide) kf251 (fun _ h9 => h9) rfl dX8_readConcept_62 ?_
    have h' := Option.some.inj h
    rw [← hQQ]
    exact W.iret (v := (x_iM 55)) hx hb hr (fun t ht hW => ⟨⟨(x_iM 55), (), rfl, by rw [← h'], by rw [← hWQ, ← h', ht]; exact hP, va_K.moved hW.alike hK⟩, hS.F ht⟩) hS.2.2 dX8_readConcept_65
  have B28 : ∀ (n : Nat) (v1 : Int32) (x_iM : Nat → Int32) (x_aM : Nat → Nat → Int32) (H : Heap) (locs : List Loc) (ls : Array Slot), f_M_readConcept_28 N iM aM n v1 x_iM x_aM = some q → va_P (dC, dI) vwCl (zzM ad cy x_iM x_aM) H → va_D A (zzM ad cy x_iM x_aM) → va_S A s.heap H locs → lv_has ls 2 [(0, .ref (ad 0)), (1, .int v1)] → W p l e ({ frames := 5, cells := 0, slots := 0, locals := 115 } : Room) s m args below meth c H locs 0 0 QQ (F0 m 28 ls []) := by
    intro n
    induction n with
    | zero =>
      intro v1 x_iM x_aM H locs ls h hP hD hS hl
      rw [f_M_readConcept_28] at h
      cases h
    | succ n ih =>
      intro v1 x_iM x_aM H locs ls h hP hD hS hl
      rw [f_M_readConcept_28] at h
      refine lv_iload_n hx hb dX8_readConcept_28 rfl (lv_at hl 1 rfl) ?_
      refine lv_if_eq (tgt := 61) hx hb dX8_readConcept_29 (by decide) (fun cz => ?_) (fun cz => ?_)
      · have h := g_t h cz
        exact B61 x_iM x_aM H locs ls h hP hD hS (lv_sub hl [0] rfl)
      · have h := g_f h cz
        refine lv_aload_n hx hb dX8_readConcept_32 rfl (lv_at hl 0 rfl) ?_
        obtain ⟨q33, e33, h⟩ := g_b h
        refine callVis (cc := cX8_readConcept) (w1 := zzM ad cy x_iM x_aM) (As := []) (rest := []) ⟨hx, hb, hml, hown, hts⟩ (c_M_fine l dC dI cy ad H.size x_iM x_aM q33 e33) (cwV 0 hts (goodV m_ml_X8_198 m_im_X8_fine m_se_X8_fine m_in_X8 m_cd_X8_fine) rfl rfl rfl (by decide +kernel) ⟨Nat.le_of_ble_eq_true rfl, Nat.le_of_ble_eq_true rfl⟩) hN hK hP hD hS hA rfl 0 rfl rfl rfl hl.1 rfl (Nat.le_of_ble_eq_true rfl) dX8_readConcept_33 ⟨Nat.zero_le _, Nat.zero_le _⟩ (fun H locs hP hD hS => ?_)
        refine lv_if_eq (tgt := 61) hx hb dX8_readConcept_36 (by decide) (fun cz => ?_) (fun cz => ?_)
        · have h := g_t h cz
          exact B61 x_iM x_aM H locs ls h hP hD hS (lv_sub hl [0] rfl)
        · have h := g_f h cz
          refine lv_aload_n hx hb dX8_readConcept_39 rfl (lv_at hl 0 rfl) ?_
          refine va_get (D := (dC, dI)) (ci := 8) (v := .int ((x_iM 56))) (C := RX8) (T := TX8) (N := 78) hx hb hts ki8 hown hK hP 0 rfl rfl 56 (by decide) kf263 (fun _ h9 => h9) rfl dX8_readConcept_40 ?_
          refine lv_if_eq (tgt := 53) hx hb dX8_readConcept_43 (by decide) (fun cz => ?_) (fun cz => ?_)
          · have h := g_t h cz
            refine lv_aload_n hx hb dX8_readConcept_53 rfl (lv_at hl 0 rfl) ?_
            obtain ⟨q54, e54, h⟩ := g_b h
            refine callVis (cc := cX8_readConcept) (w1 := zzM ad cy q54.2.1 q54.2.2) (As := []) (rest := []) ⟨hx, hb, hml, hown, hts⟩ (c_M_readBehind l dC dI cy ad H.size N x_iM x_aM q54 e54) (cwV 0 hts (goodV m_ml_X8_292 m_im_X8_readBehind m_se_X8_readBehind m_in_X8 m_cd_X8_readBehind) rfl rfl rfl (by decide +kernel) ⟨Nat.le_of_ble_eq_true rfl, Nat.le_of_ble_eq_true rfl⟩) hN hK hP hD hS hA rfl 0 rfl rfl rfl hl.1 rfl (Nat.le_of_ble_eq_true rfl) dX8_readConcept_54 ⟨Nat.zero_le _, Nat.zero_le _⟩ (fun H locs hP hD hS => ?_)
            refine lv_istore_n (lv' := [(1, .int q54.1), (0, .ref (ad 0))]) hx hb dX8_readConcept_57 rfl hl (by decide) rfl (fun ls hl => ?_)
            refine lv_goto (tgt := 28) hx hb dX8_readConcept_58 (by decide) ?_
            exact ih q54.1 q54.2.1 q54.2.2 H locs ls h hP hD hS (lv_sub hl [1, 0] rfl)
          · have h := g_f h cz
            refine lv_aload_n hx hb dX8_readConcept_46 rfl (lv_at hl 0 rfl) ?_
            obtain ⟨q47, e47, h⟩ := g_b h
            refine callVvs (cc := cX8_readConcept) (w1 := zzM ad cy q47.1 q47.2) (As := []) (rest := []) ⟨hx, hb, hml, hown, hts⟩ (c_M_readOne l dC dI cy ad H.size N x_iM x_aM q47 e47) (cwV 0 hts (goodV m_ml_X8_289 m_im_X8_readOne m_se_X8_readOne m_in_X8 m_cd_X8_readOne) rfl rfl rfl (by decide +kernel) ⟨Nat.le_of_ble_eq_true rfl, Nat.le_of_ble_eq_true rfl⟩) hN hK hP hD hS hA rfl 0 rfl rfl rfl hl.1 rfl (Nat.le_of_ble_eq_true rfl) dX8_readConcept_47 ⟨Nat.zero_le _, Nat.zero_le _⟩ (fun H locs hP hD hS => ?_)
            refine lv_goto (tgt := 28) hx hb dX8_readConcept_50 (by decide) ?_
            exact ih v1 q47.1 q47.2 H locs ls h hP hD hS (lv_sub hl [0, 1] rfl)
  intro H locs hP hD hS
  unfold f_M_readConcept at h
  refine lv_aload_n hx hb dX8_readConcept_0 rfl (lv_at hl 0 rfl) ?_
  refine lv_iconst (v := 0) hx hb dX8_readConcept_1 (by decide) ?_
  refine va_put (D := (dC, dI)) (ci := 8) (v := .int ((0 : Int32))) (ty := .int) (C := RX8) (T := TX8) (N := 78) hx hb hts ki8 tyX8 tyX8_ok nmX8 hown hK hP hD hS 0 rfl rfl 54 (by decide) kf248 (fun _ h9 => h9) rfl (by decide +kernel) rfl rfl (Nat.le_of_ble_eq_true rfl) dX8_readConcept_2 (fun H locs hP hD hS => ?_)
  have hP : va_P (dC, dI) vwCl (zzM ad cy (us iM [(54, (0 : Int32))]) aM) H := Eq.mp (congrArg (fun w => va_P (dC, dI) vwCl w H) (sfM_iM54 ad cy iM aM ((0 : Int32)))) hP
  have hD : va_D A (zzM ad cy (us iM [(54, (0 : Int32))]) aM) := Eq.mp (congrArg (fun w => va_D A w) (sfM_iM54 ad cy iM aM ((0 : Int32)))) hD
  refine lv_aload_n hx hb dX8_readConcept_5 rfl (lv_at hl 0 rfl) ?_
  refine lv_iconst (v := 0) hx hb dX8_readConcept_6 (by decide) ?_
  refine lv_iconst (v := (-1)) hx hb dX8_readConcept_7 (by decide) ?_
  obtain ⟨q8, e8, h⟩ := g_b h
  refine callVvs (cc := cX8_readConcept) (w1 := zzM ad cy (us iM [(54, q8.1)]) (us aM [(52, q8.2.1), (53, q8.2.2)])) (As := [.int ((0 : Int32)), .int ((-1 : Int32))]) (rest := []) ⟨hx, hb, hml, hown, hts⟩ (c_M_wait l dC dI cy ad H.size ((0 : Int32)) ((-1 : Int32)) ((us iM [(54, (0 : Int32))])) aM q8 e8) (cwV 2 hts (goodV m_ml_X8_270 m_im_X8_wait m_se_X8_wait m_in_X8 m_cd_X8_wait) rfl rfl rfl (by decide +kernel) ⟨Nat.le_of_ble_eq_true rfl, Nat.le_of_ble_eq_true rfl⟩) hN hK hP hD hS hA rfl 0 rfl rfl rfl hl.1 rfl (Nat.le_of_ble_eq_true rfl) dX8_readConcept_8 ⟨Nat.zero_le _, Nat.zero_le _⟩ (fun H locs hP hD hS => ?_)
  refine lv_aload_n hx hb dX8_readConcept_11 rfl (lv_at hl 0 rfl) ?_
  refine lv_iconst (v := 1) hx hb dX8_readConcept_12 (by decide) ?_
  refine va_put (D := (dC, dI)) (ci := 8) (v := .int ((1 : Int32))) (ty := .boolean) (C := RX8) (T := TX8) (N := 78) hx hb hts ki8 tyX8 tyX8_ok nmX8 hown hK hP hD hS 0 rfl rfl 56 (by decide) kf263 (fun _ h9 => h9) rfl (by decide +kernel) rfl rfl (Nat.le_of_ble_eq_true rfl) dX8_readConcept_13 (fun H locs hP hD hS => ?_)
  have hP : va_P (dC, dI) vwCl (zzM ad cy (us iM [(54, q8.1), (56, (1 : Int32))]) (us aM [(52, q8.2.1), (53, q8.2.2)])) H := Eq.mp (congrArg (fun w => va_P (dC, dI) vwCl w H) (stM_iM56 ad cy iM (us aM [(52, q8.2.1), (53, q8.2.2)]) [(54, q8.1)] ((1 : Int32)))) hP
  have hD : va_D A (zzM ad cy (us iM [(54, q8.1), (56, (1 : Int32))]) (us aM [(52, q8.2.1), (53, q8.2.2)])) := Eq.mp (congrArg (fun w => va_D A w) (stM_iM56 ad cy iM (us aM [(52, q8.2.1), (53, q8.2.2)]) [(54, q8.1)] ((1 : Int32)))) hD
  refine lv_aload_n hx hb dX8_readConcept_16 rfl (lv_at hl 0 rfl) ?_
  refine lv_iconst (v := (-1)) hx hb dX8_readConcept_17 (by decide) ?_
  refine va_put (D := (dC, dI)) (ci := 8) (v := .int ((-1 : Int32))) (ty := .int) (C := RX8) (T := TX8) (N := 78) hx hb hts ki8 tyX8 tyX8_ok nmX8 hown hK hP hD hS 0 rfl rfl 55 (by decide) kf251 (fun _ h9 => h9) rfl (by decide +kernel) rfl rfl (Nat.le_of_ble_eq_true rfl) dX8_readConcept_18 (fun H locs hP hD hS => ?_)
  have hP : va_P (dC, dI) vwCl (zzM ad cy (us iM [(54, q8.1), (55, (-1 : Int32)), (56, (1 : Int32))]) (us aM [(52, q8.2.1), (53, q8.2.2)])) H := Eq.mp (congrArg (fun w => va_P (dC, dI) vwCl w H) (stM_iM55 ad cy iM (us aM [(52, q8.2.1), (53, q8.2.2)]) [(54, q8.1), (56, (1 : Int32))] ((-1 : Int32)))) hP
  have hD : va_D A (zzM ad cy (us iM [(54, q8.1), (55, (-1 : Int32)), (56, (1 : Int32))]) (us aM [(52, q8.2.1), (53, q8.2.2)])) := Eq.mp (congrArg (fun w => va_D A w) (stM_iM55 ad cy iM (us aM [(52, q8.2.1), (53, q8.2.2)]) [(54, q8.1), (56, (1 : Int32))] ((-1 : Int32)))) hD
  refine lv_aload_n hx hb dX8_readConcept_21 rfl (lv_at hl 0 rfl) ?_
  refine lv_iconst (v := 0) hx hb dX8_readConcept_22 (by decide) ?_
  refine va_put (D := (dC, dI)) (ci := 8) (v := .int ((0 : Int32))) (ty := .int) (C := RX8) (T := TX8) (N := 78) hx hb hts ki8 tyX8 tyX8_ok nmX8 hown hK hP hD hS 0 rfl rfl 49 (by decide) kf254 (fun _ h9 => h9) rfl (by decide +kernel) rfl rfl (Nat.le_of_ble_eq_true rfl) dX8_readConcept_23 (fun H locs hP hD hS => ?_)
  have hP : va_P (dC, dI) vwCl (zzM ad cy (us iM [(49, (0 : Int32)), (54, q8.1), (55, (-1 : Int32)), (56, (1 : Int32))]) (us aM [(52, q8.2.1), (53, q8.2.2)])) H := Eq.mp (congrArg (fun w => va_P (dC, dI) vwCl w H) (stM_iM49 ad cy iM (us aM [(52, q8.2.1), (53, q8.2.2)]) [(54, q8.1), (55, (-1 : Int32)), (56, (1 : Int32))] ((0 : Int32)))) hP
  have hD : va_D A (zzM ad cy (us iM [(49, (0 : Int32)), (54, q8.1), (55, (-1 : Int32)), (56, (1 : Int32))]) (us aM [(52, q8.2.1), (53, q8.2.2)])) := Eq.mp (congrArg (fun w => va_D A w) (stM_iM49 ad cy iM (us aM [(52, q8.2.1), (53, q8.2.2)]) [(54, q8.1), (55, (-1 : Int32)), (56, (1 : Int32))] ((0 : Int32)))) hD
  refine lv_iconst (v := 1) hx hb dX8_readConcept_26 (by decide) ?_
  refine lv_istore_n (lv' := [(1, .int ((1 : Int32))), (0, .ref (ad 0))]) hx hb dX8_readConcept_27 rfl hl (by decide) rfl (fun ls hl => ?_)
  exact B28 N ((1 : Int32)) ((us iM [(49, (0 : Int32)), (54, q8.1), (55, (-1 : Int32)), (56, (1 : Int32))])) ((us aM [(52, q8.2.1), (53, q8.2.2)])) H locs ls h hP hD hS (lv_sub hl [1, 0] rfl)
set_option maxHeartbeats 8000000 in
set_option maxRecDepth 100000 in
theorem c_M_say (l : Launch) (dC : Nat → ClassId) (dI : Nat → Nat → Nat) (cy : Nat → ClassId) (ad : Nat → Nat) (sz : Nat) (a1 : Int32) (a2 : Int32) (a3 : Int32) (iM : Nat → Int32) (aM : Nat → Nat → Int32) (q : Int32 × (Nat → Int32) × (Nat → Int32) × (Nat → Int32)) (h : f_M_say a1 a2 a3 (iM 40) (aM 15) (aM 16) (aM 17) = some q) : Met l yX8_say wsX8_say ({ frames := 0, cells := 0, slots := 0, locals := 0 } : Room) (cP (dC, dI) cy [.ref (ad 0), .int a1, .int a2, .int a3] (zzM ad cy iM aM) sz) (cQv (dC, dI) cy (zzM ad cy (us iM [(40, q.1)]) (us aM [(15, q.2.1), (16, q.2.2.1), (17, q.2.2.2)])) (va_A (zzM ad cy iM aM) sz)) 0 0 (va_A (zzM ad cy iM aM) sz) := by
  refine Met.ofW (cc := cX8_say) (maxL := 5) (ret := none) (by decide) rfl ?_
  intro p e s m args below meth c s₁ B hml hv
  obtain ⟨hav, hsz, hP, hK, hD0, hN⟩ := hv
  have hx := B.exec
  have hb := B.bytes
  have hr := B.returns
  have hts := atoms_spec (ws := wsX8_say) B.pre
  have hown : s.vm.findClass RX8 = some m.cls := findClass_of_methodNamed B.named
  have hlocks := B.notSynchronized
  subst hsz
  have hD := hD0.self (sz := s.heap.size)
  generalize hAe : va_A (zzM ad cy iM aM) s.heap.size = A at hD ⊢
  have hA : ∀ q : Nat, s.heap.size ≤ q → A q := fun q h => by rw [← hAe]; exact Or.inr h
  have hS : va_S A s.heap s.heap [] := va_S.rf
  generalize hWQ : (zzM ad cy (us iM [(40, q.1)]) (us aM [(15, q.2.1), (16, q.2.2.1), (17, q.2.2.2)])) = WQ
  generalize hQQ : MQ below (cQv (dC, dI) cy WQ A) args s 0 0 A = QQ
  have hl := lv_entry ([.ref (ad 0), .int a1, .int a2, .int a3] : List Value) (n := 5) (Nat.le_of_ble_eq_true rfl)
  have hfr := lg_entry_eq m ([.ref (ad 0), .int a1, .int a2, .int a3] : List Value) 5
  rw [← hav] at hfr
  rw [hfr]
  clear hfr hav
  generalize (lg_sl ([.ref (ad 0), .int a1, .int a2, .int a3] : List Value) ++ List.replicate (5 - (lg_sl ([.ref (ad 0), .int a1, .int a2, .int a3] : List Value)).length) Slot.unset).toArray = ls at hl ⊢
  have hl : lv_has ls 5 [(0, .ref (ad 0)), (1, .int a1), (2, .int a2), (3, .int a3)] := hl
  have kf295 := hts _ (List.mem_cons_of_mem _ m_fl_X8_295)
  have ki8 := (fun w h => List.mem_cons_of_mem _ (i_X8 w h) : ∀ w ∈ u_ws RX8 TX8 78, w ∈ wsX8_say)
  have kf36 := hts _ (List.mem_cons_of_mem _ m_fl_X8_36)
  have kf39 := hts _ (List.mem_cons_of_mem _ m_fl_X8_39)
  have kf42 := hts _ (List.mem_cons_of_mem _ m_fl_X8_42)
  refine (?_ : ∀ (H : Heap) (locs : List Loc), va_P (dC, dI) vwCl (zzM ad cy iM aM) H → va_D A (zzM ad cy iM aM) → va_S A s.heap H locs → W p l e ({ frames := 0, cells := 0, slots := 0, locals := 0 } : Room) s m args below meth c H locs 0 0 QQ (F0 m 0 ls [])) s.heap [] hP hD hS
  clear hP hD hS
  intro H locs hP hD hS
  unfold f_M_say at h
  refine lv_sipush (v := 250) hx hb dX8_say_0 (by decide) ?_
  refine lv_aload_n hx hb dX8_say_3 rfl (lv_at hl 0 rfl) ?_
  refine va_get (D := (dC, dI)) (ci := 8) (v := .int (iM 40)) (C := RX8) (T := TX8) (N := 78) hx hb hts ki8 hown hK hP 0 rfl rfl 40 (by decide) kf295 (fun _ h9 => h9) rfl dX8_say_4 ?_
  refine lv_iadd hx hb dX8_say_7 ?_
  refine lv_istore (lv' := [(4, .int (((250 : Int32) + (iM 40)))), (0, .ref (ad 0)), (1, .int a1), (2, .int a2), (3, .int a3)]) hx hb dX8_say_8 hl (by decide) rfl (fun ls hl => ?_)
  refine lv_aload_n hx hb dX8_say_10 rfl (lv_at hl 1 rfl) ?_
  refine va_get (D := (dC, dI)) (ci := 8) (v := .ref (ad 9)) (C := RX8) (T := TX8) (N := 78) hx hb hts ki8 hown hK hP 0 rfl rfl 15 (by decide) kf36 (fun _ h9 => h9) rfl dX8_say_11 ?_
  refine lv_iload hx hb dX8_say_14 (lv_at hl 0 rfl) ?_
  refine lv_iload_n hx hb dX8_say_16 rfl (lv_at hl 2 rfl) ?_
  obtain ⟨g_85, h⟩ := g_n h
  refine va_iast (f := (aM 15)) hx hb hK hP hD hS 9 0 rfl rfl g_85 dX8_say_17 (fun H locs hP hD hS => ?_)
  have hP : va_P (dC, dI) vwCl (zzM ad cy iM (us aM [(15, (upd (aM 15) (((250 : Int32) + (iM 40))).toNatClampNeg a1))])) H := Eq.mp (congrArg (fun w => va_P (dC, dI) vwCl w H) (sfM_aM15 ad cy iM aM ((upd (aM 15) (((250 : Int32) + (iM 40))).toNatClampNeg a1)))) hP
  have hD : va_D A (zzM ad cy iM (us aM [(15, (upd (aM 15) (((250 : Int32) + (iM 40))).toNatClampNeg a1))])) := Eq.mp (congrArg (fun w => va_D A w) (sfM_aM15 ad cy iM aM ((upd (aM 15) (((250 : Int32) + (iM 40))).toNatClampNeg a1)))) hD
  refine lv_aload_n hx hb dX8_say_18 rfl (lv_at hl 1 rfl) ?_
  refine va_get (D := (dC, dI)) (ci := 8) (v := .ref (ad 10)) (C := RX8) (T := TX8) (N := 78) hx hb hts ki8 hown hK hP 0 rfl rfl 16 (by decide) kf39 (fun _ h9 => h9) rfl dX8_say_19 ?_
  refine lv_iload hx hb dX8_say_22 (lv_at hl 0 rfl) ?_
  refine lv_iload_n hx hb dX8_say_24 rfl (lv_at hl 3 rfl) ?_
  refine va_iast (f := (aM 16)) hx hb hK hP hD hS 10 0 rfl rfl g_85 dX8_say_25 (fun H locs hP hD hS => ?_)
  have hP : va_P (dC, dI) vwCl (zzM ad cy iM (us aM [(15, (upd (aM 15) (((250 : Int32) + (iM 40))).toNatClampNeg a1)), (16, (upd (aM 16) (((250 : Int32) + (iM 40))).toNatClampNeg a2))])) H := Eq.mp (congrArg (fun w => va_P (dC, dI) vwCl w H) (stM_aM16 ad cy iM aM [(15, (upd (aM 15) (((250 : Int32) + (iM 40))).toNatClampNeg a1))] ((upd (aM 16) (((250 : Int32) + (iM 40))).toNatClampNeg a2)))) hP
  have hD : va_D A (zzM ad cy iM (us aM [(15, (upd (aM 15) (((250 : Int32) + (iM 40))).toNatClampNeg a1)), (16, (upd (aM 16) (((250 : Int32) + (iM 40))).toNatClampNeg a2))])) := Eq.mp (congrArg (fun w => va_D A w) (stM_aM16 ad cy iM aM [(15, (upd (aM 15) (((250 : Int32) + (iM 40))).toNatClampNeg a1))] ((upd (aM 16) (((250 : Int32) + (iM 40))).toNatClampNeg a2)))) hD
  refine lv_aload_n hx hb dX8_say_26 rfl (lv_at hl 1 rfl) ?_
  refine va_get (D := (dC, dI)) (ci := 8) (v := .ref (ad 11)) (C := RX8) (T := TX8) (N := 78) hx hb hts ki8 hown hK hP 0 rfl rfl 17 (by decide) kf42 (fun _ h9 => h9) rfl dX8_say_27 ?_
  refine lv_iload hx hb dX8_say_30 (lv_at hl 0 rfl) ?_
  refine lv_iload_n hx hb dX8_say_32 rfl (lv_at hl 4 rfl) ?_
  refine va_iast (f := (aM 17)) hx hb hK hP hD hS 11 0 rfl rfl g_85 dX8_say_33 (fun H locs hP hD hS => ?_)
  have hP : va_P (dC, dI) vwCl (zzM ad cy iM (us aM [(15, (upd (aM 15) (((250 : Int32) + (iM 40))).toNatClampNeg a1)), (16, (upd (aM 16) (((250 : Int32) + (iM 40))).toNatClampNeg a2)), (17, (upd (aM 17) (((250 : Int32) + (iM 40))).toNatClampNeg a3))])) H := Eq.mp (congrArg (fun w => va_P (dC, dI) vwCl w H) (stM_aM17 ad cy iM aM [(15, (upd (aM 15) (((250 : Int32) + (iM 40))).toNatClampNeg a1)), (16, (upd (aM 16) (((250 : Int32) + (iM 40))).toNatClampNeg a2))] ((upd (aM 17) (((250 : Int32) + (iM 40))).toNatClampNeg a3)))) hP
  have hD : va_D A (zzM ad cy iM (us aM [(15, (upd (aM 15) (((250 : Int32) + (iM 40))).toNatClampNeg a1)), (16, (upd (aM 16) (((250 : Int32) + (iM 40))).toNatClampNeg a2)), (17, (upd (aM 17) (((250 : Int32) + (iM 40))).toNatClampNeg a3))])) := Eq.mp (congrArg (fun w => va_D A w) (stM_aM17 ad cy iM aM [(15, (upd (aM 15) (((250 : Int32) + (iM 40))).toNatClampNeg a1)), (16, (upd (aM 16) (((250 : Int32) + (iM 40))).toNatClampNeg a2))] ((upd (aM 17) (((250 : Int32) + (iM 40))).toNatClampNeg a3)))) hD
  refine lv_aload_n hx hb dX8_say_34 rfl (lv_at hl 1 rfl) ?_
  refine lv_dup hx hb dX8_say_35 rfl ?_
  refine va_get (D := (dC, dI)) (ci := 8) (v := .int (iM 40)) (C := RX8) (T := TX8) (N := 78) hx hb hts ki8 hown hK hP 0 rfl rfl 40 (by decide) kf295 (fun _ h9 => h9) rfl dX8_say_36 ?_
  refine lv_iconst (v := 1) hx hb dX8_say_39 (by decide) ?_
  refine lv_iadd hx hb dX8_say_40 ?_
  refine va_put (D := (dC, dI)) (ci := 8) (v := .int (((iM 40) + (1 : Int32)))) (ty := .int) (C := RX8) (T := TX8) (N := 78) hx hb hts ki8 tyX8 tyX8_ok nmX8 hown hK hP hD hS 0 rfl rfl 40 (by decide) kf295 (fun _ h9 => h9) rfl (by decide +kernel) rfl rfl (Nat.le_of_ble_eq_true rfl) dX8_say_41 (fun H locs hP hD hS => ?_)
  have hP : va_P (dC, dI) vwCl (zzM ad cy (us iM [(40, ((iM 40) + (1 : Int32)))]) (us aM [(15, (upd (aM 15) (((250 : Int32) + (iM 40))).toNatClampNeg a1)), (16, (upd (aM 16) (((250 : Int32) + (iM 40))).toNatClampNeg a2)), (17, (upd (aM 17) (((250 : Int32) + (iM 40))).toNatClampNeg a3))])) H := Eq.mp (congrArg (fun w => va_P (dC, dI) vwCl w H) (sfM_iM40 ad cy iM (us aM [(15, (upd (aM 15) (((250 : Int32) + (iM 40))).toNatClampNeg a1)), (16, (upd (aM 16) (((250 : Int32) + (iM 40))).toNatClampNeg a2)), (17, (upd (aM 17) (((250 : Int32) + (iM 40))).toNatClampNeg a3))]) (((iM 40) + (1 : Int32))))) hP
  have hD : va_D A (zzM ad cy (us iM [(40, ((iM 40) + (1 : Int32)))]) (us aM [(15, (upd (aM 15) (((250 : Int32) + (iM 40))).toNatClampNeg a1)), (16, (upd (aM 16) (((250 : Int32) + (iM 40))).toNatClampNeg a2)), (17, (upd (aM 17) (((250 : Int32) + (iM 40))).toNatClampNeg a3))])) := Eq.mp (congrArg (fun w => va_D A w) (sfM_iM40 ad cy iM (us aM [(15, (upd (aM 15) (((250 : Int32) + (iM 40))).toNatClampNeg a1)), (16, (upd (aM 16) (((250 : Int32) + (iM 40))).toNatClampNeg a2)), (17, (upd (aM 17) (((250 : Int32) + (iM 40))).toNatClampNeg a3))]) (((iM 40) + (1 : Int32))))) hD
  have h' := Option.some.inj h
  rw [← hQQ]
  exact W.vret hx hb hr (fun t ht hW => ⟨⟨(), rfl, trivial, by rw [← hWQ, ← h', ht]; exact hP, va_K.moved hW.alike hK⟩, hS.F ht⟩) hS.2.2 dX8_say_44
set_option maxHeartbeats 8000000 in
set_option maxRecDepth 100000 in
theorem c_M_reaches (l : Launch) (dC : Nat → ClassId) (dI : Nat → Nat → Nat) (cy : Nat → ClassId) (ad : Nat → Nat) (sz : Nat) (N : Nat) (a1 : Int32) (a2 : Int32) (iM : Nat → Int32) (aM : Nat → Nat → Int32) (q : Int32) (h : f_M_reaches N a1 a2 (aM 30) = some q) : Met l yX8_reaches wsX8_reaches ({ frames := 0, cells := 0, slots := 0, locals := 0 } : Room) (cP (dC, dI) cy [.ref (ad 0), .int a1, .int a2] (zzM ad cy iM aM) sz) (cQi (dC, dI) cy q (zzM ad cy iM aM) (va_A (zzM ad cy iM aM) sz)) 0 0 (va_A (zzM ad cy iM aM) sz) := by
  refine Met.ofW (cc := cX8_reaches) (maxL := 5) (ret := (some .boolean)) (by decide) rfl ?_
  intro p e s m args below meth c s₁ B hml hv
  obtain ⟨hav, hsz, hP, hK, hD0, hN⟩ := hv
  have hx := B.exec
  have hb := B.bytes
  have hr := B.returns
  have hts := atoms_spec (ws := wsX8_reaches) B.pre
  have hown : s.vm.findClass RX8 = some m.cls := findClass_of_methodNamed B.named
  have hlocks := B.notSynchronized
  subst hsz
  have hD := hD0.self (sz := s.heap.size)
  generalize hAe : va_A (zzM ad cy iM aM) s.heap.size = A at hD ⊢
  have hA : ∀ q : Nat, s.heap.size ≤ q → A q := fun q h => by rw [← hAe]; exact Or.inr h
  have hS : va_S A s.heap s.heap [] := va_S.rf
  generalize hWQ : (zzM ad cy iM aM) = WQ
  generalize hQQ : MQ below (cQi (dC, dI) cy q WQ A) args s 0 0 A = QQ
  have hl := lv_entry ([.ref (ad 0), .int a1, .int a2] : List Value) (n := 5) (Nat.le_of_ble_eq_true rfl)
  have hfr := lg_entry_eq m ([.ref (ad 0), .int a1, .int a2] : List Value) 5
  rw [← hav] at hfr
  rw [hfr]
  clear hfr hav
  generalize (lg_sl ([.ref (ad 0), .int a1, .int a2] : List Value) ++ List.replicate (5 - (lg_sl ([.ref (ad 0), .int a1, .int a2] : List Value)).length) Slot.unset).toArray = ls at hl ⊢
  have hl : lv_has ls 5 [(0, .ref (ad 0)), (1, .int a1), (2, .int a2)] := hl
  have kf67 := hts _ (List.mem_cons_of_mem _ m_fl_X8_67)
  have ki8 := (fun w h => List.mem_cons_of_mem _ (i_X8 w h) : ∀ w ∈ u_ws RX8 TX8 78, w ∈ wsX8_reaches)
  refine (?_ : ∀ (H : Heap) (locs : List Loc), va_P (dC, dI) vwCl (zzM ad cy iM aM) H → va_D A (zzM ad cy iM aM) → va_S A s.heap H locs → W p l e ({ frames := 0, cells := 0, slots := 0, locals := 0 } : Room) s m args below meth c H locs 0 0 QQ (F0 m 0 ls [])) s.heap [] hP hD hS
  clear hP hD hS
  have B17 : ∀ (n : Nat) (v1 : Int32) (v2 : Int32) (v3 : Int32) (v4 : Int32) (H : Heap) (locs : List Loc) (ls : Array Slot), f_M_reaches_17 N (aM 30) v1 v2 n v3 v4 = some q → va_P (dC, dI) vwCl (zzM ad cy iM aM) H → va_D A (zzM ad cy iM aM) → va_S A s.heap H locs → lv_has ls 5 [(0, .ref (ad 0)), (1, .int v1), (2, .int v2), (3, .int v3), (4, .int v4)] → W p l e ({ frames := 0, cells := 0, slots := 0, locals := 0 } : Room) s m args below meth c H locs 0 0 QQ (F0 m 17 ls []) := by
    intro n
    induction n with
    | zero =>
      intro v1 v2 v3 v4 H locs ls h hP hD hS hl
      rw [f_M_reaches_17] at h
      cases h
    | succ n ih =>
      intro v1 v2 v3 v4 H locs ls h hP hD hS hl
      rw [f_M_reaches_17] at h
      refine lv_iload hx hb dX8_reaches_17 (lv_at hl 4 rfl) ?_
      refine lv_iconst (v := 3) hx hb dX8_reaches_19 (by decide) ?_
      refine lv_icmp_ge (tgt := 79) hx hb dX8_reaches_20 (by decide) (fun cz => ?_) (fun cz => ?_)
      · have h := g_t h cz
        refine lv_iload_n hx hb dX8_reaches_79 rfl (lv_at hl 3 rfl) ?_
        obtain ⟨gz, h⟩ := g_p h
        have h' := Option.some.inj h
        rw [← hQQ]
        exact W.zret (v := v3) hx hb hr (g_zr _ gz) (fun t ht hW => ⟨⟨v3, (), rfl, by rw [← h'], by rw [← hWQ, ht]; exact hP, va_K.moved hW.alike hK⟩, hS.F ht⟩) hS.2.2 dX8_reaches_80
      · have h := g_f h cz
        refine lv_iload_n hx hb dX8_reaches_23 rfl (lv_at hl 3 rfl) ?_
        refine lv_if_ne (tgt := 67) hx hb dX8_reaches_24 (by decide) (fun cz => ?_) (fun cz => ?_)
        · have h := g_f h cz
          refine lv_iconst (v := 1) hx hb dX8_reaches_67 (by decide) ?_
          refine lv_goto (tgt := 72) hx hb dX8_reaches_68 (by decide) ?_
          refine lv_istore_n (lv' := [(3, .int ((1 : Int32))), (0, .ref (ad 0)), (1, .int v1), (2, .int v2), (4, .int v4)]) hx hb dX8_reaches_72 rfl hl (by decide) rfl (fun ls hl => ?_)
          refine lv_iinc (v := (v4 + (1 : Int32))) (lv' := [(4, .int ((v4 + (1 : Int32)))), (3, .int ((1 : Int32))), (0, .ref (ad 0)), (1, .int v1), (2, .int v2)]) hx hb dX8_reaches_73 hl (k := 4) rfl rfl (by decide) rfl (fun ls hl => ?_)
          refine lv_goto (tgt := 17) hx hb dX8_reaches_76 (by decide) ?_
          exact ih v1 v2 ((1 : Int32)) ((v4 + (1 : Int32))) H locs ls h hP hD hS (lv_sub hl [2, 3, 4, 1, 0] rfl)
        · have h := g_t h cz
          refine lv_aload_n hx hb dX8_reaches_27 rfl (lv_at hl 0 rfl) ?_
          refine va_get (D := (dC, dI)) (ci := 8) (v := .ref (ad 19)) (C := RX8) (T := TX8) (N := 78) hx hb hts ki8 hown hK hP 0 rfl rfl 30 (by decide) kf67 (fun _ h9 => h9) rfl dX8_reaches_28 ?_
          refine lv_bipush (v := 9) hx hb dX8_reaches_31 (by decide) ?_
          refine lv_iconst (v := 3) hx hb dX8_reaches_33 (by decide) ?_
          refine lv_iload_n hx hb dX8_reaches_34 rfl (lv_at hl 1 rfl) ?_
          refine lv_imul hx hb dX8_reaches_35 ?_
          refine lv_iadd hx hb dX8_reaches_36 ?_
          refine lv_iload hx hb dX8_reaches_37 (lv_at hl 4 rfl) ?_
          refine lv_iadd hx hb dX8_reaches_39 ?_
          obtain ⟨g_86, h⟩ := g_n h
          refine va_zald (f := (aM 30)) hx hb hK hP 19 4 rfl rfl g_86 dX8_reaches_40 ?_
          refine lv_if_eq (tgt := 71) hx hb dX8_reaches_41 (by decide) (fun cz => ?_) (fun cz => ?_)
          · have h := g_t h cz
            refine lv_iconst (v := 0) hx hb dX8_reaches_71 (by decide) ?_
            refine lv_istore_n (lv' := [(3, .int ((0 : Int32))), (0, .ref (ad 0)), (1, .int v1), (2, .int v2), (4, .int v4)]) hx hb dX8_reaches_72 rfl hl (by decide) rfl (fun ls hl => ?_)
            refine lv_iinc (v := (v4 + (1 : Int32))) (lv' := [(4, .int ((v4 + (1 : Int32)))), (3, .int ((0 : Int32))), (0, .ref (ad 0)), (1, .int v1), (2, .int v2)]) hx hb dX8_reaches_73 hl (k := 4) rfl rfl (by decide) rfl (fun ls hl => ?_)
            refine lv_goto (tgt := 17) hx hb dX8_reaches_76 (by decide) ?_
            exact ih v1 v2 ((0 : Int32)) ((v4 + (1 : Int32))) H locs ls h hP hD hS (lv_sub hl [2, 3, 4, 1, 0] rfl)
          · have h := g_f h cz
            refine lv_iload hx hb dX8_reaches_44 (lv_at hl 4 rfl) ?_
            refine lv_iload_n hx hb dX8_reaches_46 rfl (lv_at hl 2 rfl) ?_
            refine lv_icmp_eq (tgt := 67) hx hb dX8_reaches_47 (by decide) (fun cz => ?_) (fun cz => ?_)
            · have h := g_t h cz
              refine lv_iconst (v := 1) hx hb dX8_reaches_67 (by decide) ?_
              refine lv_goto (tgt := 72) hx hb dX8_reaches_68 (by decide) ?_
              refine lv_istore_n (lv' := [(3, .int ((1 : Int32))), (0, .ref (ad 0)), (1, .int v1), (2, .int v2), (4, .int v4)]) hx hb dX8_reaches_72 rfl hl (by decide) rfl (fun ls hl => ?_)
              refine lv_iinc (v := (v4 + (1 : Int32))) (lv' := [(4, .int ((v4 + (1 : Int32)))), (3, .int ((1 : Int32))), (0, .ref (ad 0)), (1, .int v1), (2, .int v2)]) hx hb dX8_reaches_73 hl (k := 4) rfl rfl (by decide) rfl (fun ls hl => ?_)
              refine lv_goto (tgt := 17) hx hb dX8_reaches_76 (by decide) ?_
              exact ih v1 v2 ((1 : Int32)) ((v4 + (1 : Int32))) H locs ls h hP hD hS (lv_sub hl [2, 3, 4, 1, 0] rfl)
            · have h := g_f h cz
              refine lv_aload_n hx hb dX8_reaches_50 rfl (lv_at hl 0 rfl) ?_
              refine va_get (D := (dC, dI)) (ci := 8) (v := .ref (ad 19)) (C := RX8) (T := TX8) (N := 78) hx hb hts ki8 hown hK hP 0 rfl rfl 30 (by decide) kf67 (fun _ h9 => h9) rfl dX8_reaches_51 ?_
              refine lv_bipush (v := 9) hx hb dX8_reaches_54 (by decide) ?_
              refine lv_iconst (v := 3) hx hb dX8_reaches_56 (by decide) ?_
              refine lv_iload hx hb dX8_reaches_57 (lv_at hl 4 rfl) ?_
              refine lv_imul hx hb dX8_reaches_59 ?_
              refine lv_iadd hx hb dX8_reaches_60 ?_
              refine lv_iload_n hx hb dX8_reaches_61 rfl (lv_at hl 2 rfl) ?_
              refine lv_iadd hx hb dX8_reaches_62 ?_
              obtain ⟨g_87, h⟩ := g_n h
              refine va_zald (f := (aM 30)) hx hb hK hP 19 4 rfl rfl g_87 dX8_reaches_63 ?_
              refine lv_if_eq (tgt := 71) hx hb dX8_reaches_64 (by decide) (fun cz => ?_) (fun cz => ?_)
              · have h := g_t h cz
                refine lv_iconst (v := 0) hx hb dX8_reaches_71 (by decide) ?_
                refine lv_istore_n (lv' := [(3, .int ((0 : Int32))), (0, .ref (ad 0)), (1, .int v1), (2, .int v2), (4, .int v4)]) hx hb dX8_reaches_72 rfl hl (by decide) rfl (fun ls hl => ?_)
                refine lv_iinc (v := (v4 + (1 : Int32))) (lv' := [(4, .int ((v4 + (1 : Int32)))), (3, .int ((0 : Int32))), (0, .ref (ad 0)), (1, .int v1), (2, .int v2)]) hx hb dX8_reaches_73 hl (k := 4) rfl rfl (by decide) rfl (fun ls hl => ?_)
                refine lv_goto (tgt := 17) hx hb dX8_reaches_76 (by decide) ?_
                exact ih v1 v2 ((0 : Int32)) ((v4 + (1 : Int32))) H locs ls h hP hD hS (lv_sub hl [2, 3, 4, 1, 0] rfl)
              · have h := g_f h cz
                refine lv_iconst (v := 1) hx hb dX8_reaches_67 (by decide) ?_
                refine lv_goto (tgt := 72) hx hb dX8_reaches_68 (by decide) ?_
                refine lv_istore_n (lv' := [(3, .int ((1 : Int32))), (0, .ref (ad 0)), (1, .int v1), (2, .int v2), (4, .int v4)]) hx hb dX8_reaches_72 rfl hl (by decide) rfl (fun ls hl => ?_)
                refine lv_iinc (v := (v4 + (1 : Int32))) (lv' := [(4, .int ((v4 + (1 : Int32)))), (3, .int ((1 : Int32))), (0, .ref (ad 0)), (1, .int v1), (2, .int v2)]) hx hb dX8_reaches_73 hl (k := 4) rfl rfl (by decide) rfl (fun ls hl => ?_)
                refine lv_goto (tgt := 17) hx hb dX8_reaches_76 (by decide) ?_
                exact ih v1 v2 ((1 : Int32)) ((v4 + (1 : Int32))) H locs ls h hP hD hS (lv_sub hl [2, 3, 4, 1, 0] rfl)
  intro H locs hP hD hS
  unfold f_M_reaches at h
  refine lv_aload_n hx hb dX8_reaches_0 rfl (lv_at hl 0 rfl) ?_
  refine va_get (D := (dC, dI)) (ci := 8) (v := .ref (ad 19)) (C := RX8) (T := TX8) (N := 78) hx hb hts ki8 hown hK hP 0 rfl rfl 30 (by decide) kf67 (fun _ h9 => h9) rfl dX8_reaches_1 ?_
  refine lv_bipush (v := 9) hx hb dX8_reaches_4 (by decide) ?_
  refine lv_iconst (v := 3) hx hb dX8_reaches_6 (by decide) ?_
  refine lv_iload_n hx hb dX8_reaches_7 rfl (lv_at hl 1 rfl) ?_
  refine lv_imul hx hb dX8_reaches_8 ?_
  refine lv_iadd hx hb dX8_reaches_9 ?_
  refine lv_iload_n hx hb dX8_reaches_10 rfl (lv_at hl 2 rfl) ?_
  refine lv_iadd hx hb dX8_reaches_11 ?_
  obtain ⟨g_88, h⟩ := g_n h
  refine va_zald (f := (aM 30)) hx hb hK hP 19 4 rfl rfl g_88 dX8_reaches_12 ?_
  refine lv_istore_n (lv' := [(3, .int (((aM 30) ((((9 : Int32) + ((3 : Int32) * a1)) + a2)).toNatClampNeg))), (0, .ref (ad 0)), (1, .int a1), (2, .int a2)]) hx hb dX8_reaches_13 rfl hl (by decide) rfl (fun ls hl => ?_)
  refine lv_iconst (v := 0) hx hb dX8_reaches_14 (by decide) ?_
  refine lv_istore (lv' := [(4, .int ((0 : Int32))), (3, .int (((aM 30) ((((9 : Int32) + ((3 : Int32) * a1)) + a2)).toNatClampNeg))), (0, .ref (ad 0)), (1, .int a1), (2, .int a2)]) hx hb dX8_reaches_15 hl (by decide) rfl (fun ls hl => ?_)
  exact B17 N a1 a2 (((aM 30) ((((9 : Int32) + ((3 : Int32) * a1)) + a2)).toNatClampNeg)) ((0 : Int32)) H locs ls h hP hD hS (lv_sub hl [2, 3, 4, 1, 0] rfl)
set_option maxHeartbeats 8000000 in
set_option maxRecDepth 100000 in
theorem c_M_readUnder (l : Launch) (dC : Nat → ClassId) (dI : Nat → Nat → Nat) (cy : Nat → ClassId) (ad : Nat → Nat) (sz : Nat) (N : Nat) (iM : Nat → Int32) (aM : Nat → Nat → Int32) (q : (Nat → Int32) × (Nat → Nat → Int32)) (h : f_M_readUnder N iM aM = some q) : Met l yX8_readUnder wsX8_readUnder ({ frames := 3, cells := 0, slots := 0, locals := 68 } : Room) (cP (dC, dI) cy [.ref (ad 0)] (zzM ad cy iM aM) sz) (cQv (dC, dI) cy (zzM ad cy q.1 q.2) (va_A (zzM ad cy iM aM) sz)) 0 0 (va_A (zzM ad cy iM aM) sz) := by
  refine Met.ofW (cc := cX8_readUnder) (maxL := 3) (ret := none) (by decide) rfl ?_
  intro p e s m args below meth c s₁ B hml hv
  obtain ⟨hav, hsz, hP, hK, hD0, hN⟩ := hv
  have hx := B.exec
  have hb := B.bytes
  have hr := B.returns
  have hts := atoms_spec (ws := wsX8_readUnder) B.pre
  have hown : s.vm.findClass RX8 = some m.cls := findClass_of_methodNamed B.named
  have hlocks := B.notSynchronized
  subst hsz
  have hD := hD0.self (sz := s.heap.size)
  generalize hAe : va_A (zzM ad cy iM aM) s.heap.size = A at hD ⊢
  have hA : ∀ q : Nat, s.heap.size ≤ q → A q := fun q h => by rw [← hAe]; exact Or.inr h
  have hS : va_S A s.heap s.heap [] := va_S.rf
  generalize hWQ : (zzM ad cy q.1 q.2) = WQ
  generalize hQQ : MQ below (cQv (dC, dI) cy WQ A) args s 0 0 A = QQ
  have hl := lv_entry ([.ref (ad 0)] : List Value) (n := 3) (Nat.le_of_ble_eq_true rfl)
  have hfr := lg_entry_eq m ([.ref (ad 0)] : List Value) 3
  rw [← hav] at hfr
  rw [hfr]
  clear hfr hav
  generalize (lg_sl ([.ref (ad 0)] : List Value) ++ List.replicate (3 - (lg_sl ([.ref (ad 0)] : List Value)).length) Slot.unset).toArray = ls at hl ⊢
  have hl : lv_has ls 3 [(0, .ref (ad 0))] := hl
  have kf67 := hts _ (List.mem_cons_of_mem _ m_fl_X8_67)
  have ki8 := (fun w h => List.mem_cons_of_mem _ (i_X8 w h) : ∀ w ∈ u_ws RX8 TX8 78, w ∈ wsX8_readUnder)
  have kf70 := hts _ (List.mem_cons_of_mem _ m_fl_X8_70)
  have kf169 := hts _ (List.mem_cons_of_mem _ m_fl_X8_169)
  have kf63 := hts _ (List.mem_cons_of_mem _ m_fl_X8_63)
  refine (?_ : ∀ (H : Heap) (locs : List Loc), va_P (dC, dI) vwCl (zzM ad cy iM aM) H → va_D A (zzM ad cy iM aM) → va_S A s.heap H locs → W p l e ({ frames := 3, cells := 0, slots := 0, locals := 68 } : Room) s m args below meth c H locs 0 0 QQ (F0 m 0 ls [])) s.heap [] hP hD hS
  clear hP hD hS
  have B95 : ∀ (v1 : Int32) (v2 : Int32) (x_iM : Nat → Int32) (x_aM : Nat → Nat → Int32) (H : Heap) (locs : List Loc) (ls : Array Slot), f_M_readUnder_95 N iM aM v1 v2 x_iM x_aM = some q → va_P (dC, dI) vwCl (zzM ad cy x_iM x_aM) H → va_D A (zzM ad cy x_iM x_aM) → va_S A s.heap H locs → lv_has ls 3 [(0, .ref (ad 0)), (1, .int v1), (2, .int v2)] → W p l e ({ frames := 3, cells := 0, slots := 0, locals := 68 } : Room) s m args below meth c H locs 0 0 QQ (F0 m 95 ls []) := by
    intro v1 v2 x_iM x_aM H locs ls h hP hD hS hl
    unfold f_M_readUnder_95 at h
    refine lv_aload_n hx hb dX8_readUnder_95 rfl (lv_at hl 0 rfl) ?_
    obtain ⟨q96, e96, h⟩ := g_b h
    refine callVis (cc := cX8_readUnder) (w1 := zzM ad cy x_iM x_aM) (As := []) (rest := []) ⟨hx, hb, hml, hown, hts⟩ (c_M_fine l dC dI cy ad H.size x_iM x_aM q96 e96) (cwV 0 hts (goodV m_ml_X8_198 m_im_X8_fine m_se_X8_fine m_in_X8 m_cd_X8_fine) rfl rfl rfl (by decide +kernel) ⟨Nat.le_of_ble_eq_true rfl, Nat.le_of_ble_eq_true rfl⟩) hN hK hP hD hS hA rfl 0 rfl rfl rfl hl.1 rfl (Nat.le_of_ble_eq_true rfl) dX8_readUnder_96 ⟨Nat.zero_le _, Nat.zero_le _⟩ (fun H locs hP hD hS => ?_)
    refine lv_if_eq (tgt := 145) hx hb dX8_readUnder_99 (by decide) (fun cz => ?_) (fun cz => ?_)
    · have h := g_t h cz
      have h' := Option.some.inj h
      rw [← hQQ]
      exact W.vret hx hb hr (fun t ht hW => ⟨⟨(), rfl, trivial, by rw [← hWQ, ← h', ht]; exact hP, va_K.moved hW.alike hK⟩, hS.F ht⟩) hS.2.2 dX8_readUnder_145
    · have h := g_f h cz
      refine lv_aload_n hx hb dX8_readUnder_102 rfl (lv_at hl 0 rfl) ?_
      obtain ⟨q103, e103, h⟩ := g_b h
      refine callVvs (cc := cX8_readUnder) (w1 := zzM ad cy (us x_iM [(2, q103.1), (3, q103.2.1), (4, q103.2.2.1), (5, q103.2.2.2.1), (6, q103.2.2.2.2)]) x_aM) (As := []) (rest := []) ⟨hx, hb, hml, hown, hts⟩ (c_M_next l dC dI cy ad H.size N x_iM x_aM q103 e103) (cwV 0 hts (goodV m_ml_X8_205 m_im_X8_next m_se_X8_next m_in_X8 m_cd_X8_next) rfl rfl rfl (by decide +kernel) ⟨Nat.le_of_ble_eq_true rfl, Nat.le_of_ble_eq_true rfl⟩) hN hK hP hD hS hA rfl 0 rfl rfl rfl hl.1 rfl (Nat.le_of_ble_eq_true rfl) dX8_readUnder_103 ⟨Nat.zero_le _, Nat.zero_le _⟩ (fun H locs hP hD hS => ?_)
      refine lv_aload_n hx hb dX8_readUnder_106 rfl (lv_at hl 0 rfl) ?_
      refine va_get (D := (dC, dI)) (ci := 8) (v := .ref (ad 19)) (C := RX8) (T := TX8) (N := 78) hx hb hts ki8 hown hK hP 0 rfl rfl 30 (by decide) kf67 (fun _ h9 => h9) rfl dX8_readUnder_107 ?_
      refine lv_bipush (v := 9) hx hb dX8_readUnder_110 (by decide) ?_
      refine lv_iconst (v := 3) hx hb dX8_readUnder_112 (by decide) ?_
      refine lv_iload_n hx hb dX8_readUnder_113 rfl (lv_at hl 1 rfl) ?_
      refine lv_imul hx hb dX8_readUnder_114 ?_
      refine lv_iadd hx hb dX8_readUnder_115 ?_
      refine lv_iload_n hx hb dX8_readUnder_116 rfl (lv_at hl 2 rfl) ?_
      refine lv_iadd hx hb dX8_readUnder_117 ?_
      refine lv_iconst (v := 1) hx hb dX8_readUnder_118 (by decide) ?_
      obtain ⟨g_89, h⟩ := g_n h
      refine va_zast (f := (x_aM 30)) hx hb hK hP hD hS 19 4 rfl rfl g_89 dX8_readUnder_119 (fun H locs hP hD hS => ?_)
      have hP : va_P (dC, dI) vwCl (zzM ad cy (us x_iM [(2, q103.1), (3, q103.2.1), (4, q103.2.2.1), (5, q103.2.2.2.1), (6, q103.2.2.2.2)]) (us x_aM [(30, (upd ((x_aM 30)) ((((9 : Int32) + ((3 : Int32) * v1)) + v2)).toNatClampNeg (vp_nar .boolean ((1 : Int32)))))])) H := Eq.mp (congrArg (fun w => va_P (dC, dI) vwCl w H) (sfM_aM30 ad cy (us x_iM [(2, q103.1), (3, q103.2.1), (4, q103.2.2.1), (5, q103.2.2.2.1), (6, q103.2.2.2.2)]) x_aM ((upd ((x_aM 30)) ((((9 : Int32) + ((3 : Int32) * v1)) + v2)).toNatClampNeg (vp_nar .boolean ((1 : Int32))))))) hP
      have hD : va_D A (zzM ad cy (us x_iM [(2, q103.1), (3, q103.2.1), (4, q103.2.2.1), (5, q103.2.2.2.1), (6, q103.2.2.2.2)]) (us x_aM [(30, (upd ((x_aM 30)) ((((9 : Int32) + ((3 : Int32) * v1)) + v2)).toNatClampNeg (vp_nar .boolean ((1 : Int32)))))])) := Eq.mp (congrArg (fun w => va_D A w) (sfM_aM30 ad cy (us x_iM [(2, q103.1), (3, q103.2.1), (4, q103.2.2.1), (5, q103.2.2.2.1), (6, q103.2.2.2.2)]) x_aM ((upd ((x_aM 30)) ((((9 : Int32) + ((3 : Int32) * v1)) + v2)).toNatClampNeg (vp_nar .boolean ((1 : Int32))))))) hD
      refine lv_aload_n hx hb dX8_readUnder_120 rfl (lv_at hl 0 rfl) ?_
      refine va_get (D := (dC, dI)) (ci := 8) (v := .ref (ad 20)) (C := RX8) (T := TX8) (N := 78) hx hb hts ki8 hown hK hP 0 rfl rfl 31 (by decide) kf70 (fun _ h9 => h9) rfl dX8_readUnder_121 ?_
      refine lv_iconst (v := 3) hx hb dX8_readUnder_124 (by decide) ?_
      refine lv_iload_n hx hb dX8_readUnder_125 rfl (lv_at hl 1 rfl) ?_
      refine lv_iadd hx hb dX8_readUnder_126 ?_
      refine lv_iconst (v := 1) hx hb dX8_readUnder_127 (by decide) ?_
      obtain ⟨g_57, h⟩ := g_n h
      refine va_zast (f := (x_aM 31)) hx hb hK hP hD hS 20 4 rfl rfl g_57 dX8_readUnder_128 (fun H locs hP hD hS => ?_)
      have hP : va_P (dC, dI) vwCl (zzM ad cy (us x_iM [(2, q103.1), (3, q103.2.1), (4, q103.2.2.1), (5, q103.2.2.2.1), (6, q103.2.2.2.2)]) (us x_aM [(30, (upd ((x_aM 30)) ((((9 : Int32) + ((3 : Int32) * v1)) + v2)).toNatClampNeg (vp_nar .boolean ((1 : Int32))))), (31, (upd ((x_aM 31)) (((3 : Int32) + v1)).toNatClampNeg (vp_nar .boolean ((1 : Int32)))))])) H := Eq.mp (congrArg (fun w => va_P (dC, dI) vwCl w H) (stM_aM31 ad cy (us x_iM [(2, q103.1), (3, q103.2.1), (4, q103.2.2.1), (5, q103.2.2.2.1), (6, q103.2.2.2.2)]) x_aM [(30, (upd ((x_aM 30)) ((((9 : Int32) + ((3 : Int32) * v1)) + v2)).toNatClampNeg (vp_nar .boolean ((1 : Int32)))))] ((upd ((x_aM 31)) (((3 : Int32) + v1)).toNatClampNeg (vp_nar .boolean ((1 : Int32))))))) hP
      have hD : va_D A (zzM ad cy (us x_iM [(2, q103.1), (3, q103.2.1), (4, q103.2.2.1), (5, q103.2.2.2.1), (6, q103.2.2.2.2)]) (us x_aM [(30, (upd ((x_aM 30)) ((((9 : Int32) + ((3 : Int32) * v1)) + v2)).toNatClampNeg (vp_nar .boolean ((1 : Int32))))), (31, (upd ((x_aM 31)) (((3 : Int32) + v1)).toNatClampNeg (vp_nar .boolean ((1 : Int32)))))])) := Eq.mp (congrArg (fun w => va_D A w) (stM_aM31 ad cy (us x_iM [(2, q103.1), (3, q103.2.1), (4, q103.2.2.1), (5, q103.2.2.2.1), (6, q103.2.2.2.2)]) x_aM [(30, (upd ((x_aM 30)) ((((9 : Int32) + ((3 : Int32) * v1)) + v2)).toNatClampNeg (vp_nar .boolean ((1 : Int32)))))] ((upd ((x_aM 31)) (((3 : Int32) + v1)).toNatClampNeg (vp_nar .boolean ((1 : Int32))))))) hD
      refine lv_aload_n hx hb dX8_readUnder_129 rfl (lv_at hl 0 rfl) ?_
      refine va_get (D := (dC, dI)) (ci := 8) (v := .ref (ad 20)) (C := RX8) (T := TX8) (N := 78) hx hb hts ki8 hown hK hP 0 rfl rfl 31 (by decide) kf70 (fun _ h9 => h9) rfl dX8_readUnder_130 ?_
      refine lv_iconst (v := 3) hx hb dX8_readUnder_133 (by decide) ?_
      refine lv_iload_n hx hb dX8_readUnder_134 rfl (lv_at hl 2 rfl) ?_
      refine lv_iadd hx hb dX8_readUnder_135 ?_
      refine lv_iconst (v := 1) hx hb dX8_readUnder_136 (by decide) ?_
      obtain ⟨g_90, h⟩ := g_n h
      refine va_zast (f := (upd ((x_aM 31)) (((3 : Int32) + v1)).toNatClampNeg (vp_nar .boolean ((1 : Int32))))) hx hb hK hP hD hS 20 4 rfl rfl g_90 dX8_readUnder_137 (fun H locs hP hD hS => ?_)
      have hP : va_P (dC, dI) vwCl (zzM ad cy (us x_iM [(2, q103.1), (3, q103.2.1), (4, q103.2.2.1), (5, q103.2.2.2.1), (6, q103.2.2.2.2)]) (us x_aM [(30, (upd ((x_aM 30)) ((((9 : Int32) + ((3 : Int32) * v1)) + v2)).toNatClampNeg (vp_nar .boolean ((1 : Int32))))), (31, (upd ((upd ((x_aM 31)) (((3 : Int32) + v1)).toNatClampNeg (vp_nar .boolean ((1 : Int32))))) (((3 : Int32) + v2)).toNatClampNeg (vp_nar .boolean ((1 : Int32)))))])) H := Eq.mp (congrArg (fun w => va_P (dC, dI) vwCl w H) (stM_aM31 ad cy (us x_iM [(2, q103.1), (3, q103.2.1), (4, q103.2.2.1), (5, q103.2.2.2.1), (6, q103.2.2.2.2)]) x_aM [(30, (upd ((x_aM 30)) ((((9 : Int32) + ((3 : Int32) * v1)) + v2)).toNatClampNeg (vp_nar .boolean ((1 : Int32))))), (31, (upd ((x_aM 31)) (((3 : Int32) + v1)).toNatClampNeg (vp_nar .boolean ((1 : Int32)))))] ((upd ((upd ((x_aM 31)) (((3 : Int32) + v1)).toNatClampNeg (vp_nar .boolean ((1 : Int32))))) (((3 : Int32) + v2)).toNatClampNeg (vp_nar .boolean ((1 : Int32))))))) hP
      have hD : va_D A (zzM ad cy (us x_iM [(2, q103.1), (3, q103.2.1), (4, q103.2.2.1), (5, q103.2.2.2.1), (6, q103.2.2.2.2)]) (us x_aM [(30, (upd ((x_aM 30)) ((((9 : Int32) + ((3 : Int32) * v1)) + v2)).toNatClampNeg (vp_nar .boolean ((1 : Int32))))), (31, (upd ((upd ((x_aM 31)) (((3 : Int32) + v1)).toNatClampNeg (vp_nar .boolean ((1 : Int32))))) (((3 : Int32) + v2)).toNatClampNeg (vp_nar .boolean ((1 : Int32)))))])) := Eq.mp (congrArg (fun w => va_D A w) (stM_aM31 ad cy (us x_iM [(2, q103.1), (3, q103.2.1), (4, q103.2.2.1), (5, q103.2.2.2.1), (6, q103.2.2.2.2)]) x_aM [(30, (upd ((x_aM 30)) ((((9 : Int32) + ((3 : Int32) * v1)) + v2)).toNatClampNeg (vp_nar .boolean ((1 : Int32))))), (31, (upd ((x_aM 31)) (((3 : Int32) + v1)).toNatClampNeg (vp_nar .boolean ((1 : Int32)))))] ((upd ((upd ((x_aM 31)) (((3 : Int32) + v1)).toNatClampNeg (vp_nar .boolean ((1 : Int32))))) (((3 : Int32) + v2)).toNatClampNeg (vp_nar .boolean ((1 : Int32))))))) hD
      refine lv_aload_n hx hb dX8_readUnder_138 rfl (lv_at hl 0 rfl) ?_
      refine lv_iconst (v := 3) hx hb dX8_readUnder_139 (by decide) ?_
      refine lv_iload_n hx hb dX8_readUnder_140 rfl (lv_at hl 1 rfl) ?_
      refine lv_iload_n hx hb dX8_readUnder_141 rfl (lv_at hl 2 rfl) ?_
      obtain ⟨q142, e142, h⟩ := g_b h
      refine callVvs (cc := cX8_readUnder) (w1 := zzM ad cy (us x_iM [(2, q103.1), (3, q103.2.1), (4, q103.2.2.1), (5, q103.2.2.2.1), (6, q103.2.2.2.2), (40, q142.1)]) (us x_aM [(15, q142.2.1), (16, q142.2.2.1), (17, q142.2.2.2), (30, (upd ((x_aM 30)) ((((9 : Int32) + ((3 : Int32) * v1)) + v2)).toNatClampNeg (vp_nar .boolean ((1 : Int32))))), (31, (upd ((upd ((x_aM 31)) (((3 : Int32) + v1)).toNatClampNeg (vp_nar .boolean ((1 : Int32))))) (((3 : Int32) + v2)).toNatClampNeg (vp_nar .boolean ((1 : Int32)))))])) (As := [.int ((3 : Int32)), .int v1, .int v2]) (rest := []) ⟨hx, hb, hml, hown, hts⟩ (c_M_say l dC dI cy ad H.size ((3 : Int32)) v1 v2 ((us x_iM [(2, q103.1), (3, q103.2.1), (4, q103.2.2.1), (5, q103.2.2.2.1), (6, q103.2.2.2.2)])) ((us x_aM [(30, (upd ((x_aM 30)) ((((9 : Int32) + ((3 : Int32) * v1)) + v2)).toNatClampNeg (vp_nar .boolean ((1 : Int32))))), (31, (upd ((upd ((x_aM 31)) (((3 : Int32) + v1)).toNatClampNeg (vp_nar .boolean ((1 : Int32))))) (((3 : Int32) + v2)).toNatClampNeg (vp_nar .boolean ((1 : Int32)))))])) q142 e142) (cwV 3 hts (goodV m_ml_X8_301 m_im_X8_say m_se_X8_say m_in_X8 m_cd_X8_say) rfl rfl rfl (by decide +kernel) ⟨Nat.le_of_ble_eq_true rfl, Nat.le_of_ble_eq_true rfl⟩) hN hK hP hD hS hA rfl 0 rfl rfl rfl hl.1 rfl (Nat.le_of_ble_eq_true rfl) dX8_readUnder_142 ⟨Nat.zero_le _, Nat.zero_le _⟩ (fun H locs hP hD hS => ?_)
      have h' := Option.some.inj h
      rw [← hQQ]
      exact W.vret hx hb hr (fun t ht hW => ⟨⟨(), rfl, trivial, by rw [← hWQ, ← h', ht]; exact hP, va_K.moved hW.alike hK⟩, hS.F ht⟩) hS.2.2 dX8_readUnder_145
  have B85 : ∀ (v1 : Int32) (v2 : Int32) (x_iM : Nat → Int32) (x_aM : Nat → Nat → Int32) (H : Heap) (locs : List Loc) (ls : Array Slot), f_M_readUnder_85 N iM aM v1 v2 x_iM x_aM = some q → va_P (dC, dI) vwCl (zzM ad cy x_iM x_aM) H → va_D A (zzM ad cy x_iM x_aM) → va_S A s.heap H locs → lv_has ls 3 [(0, .ref (ad 0)), (1, .int v1), (2, .int v2)] → W p l e ({ frames := 3, cells := 0, slots := 0, locals := 68 } : Room) s m args below meth c H locs 0 0 QQ (F0 m 85 ls []) := by
    intro v1 v2 x_iM x_aM H locs ls h hP hD hS hl
    unfold f_M_readUnder_85 at h
    refine lv_aload_n hx hb dX8_readUnder_85 rfl (lv_at hl 0 rfl) ?_
    refine lv_bipush (v := 6) hx hb dX8_readUnder_86 (by decide) ?_
    refine lv_aload_n hx hb dX8_readUnder_88 rfl (lv_at hl 0 rfl) ?_
    refine va_get (D := (dC, dI)) (ci := 8) (v := .int ((x_iM 4))) (C := RX8) (T := TX8) (N := 78) hx hb hts ki8 hown hK hP 0 rfl rfl 4 (by decide) kf169 (fun _ h9 => h9) rfl dX8_readUnder_89 ?_
    obtain ⟨q92, e92, h⟩ := g_b h
    refine callVvs (cc := cX8_readUnder) (w1 := zzM ad cy (us x_iM [(46, q92.1), (47, q92.2)]) x_aM) (As := [.int ((6 : Int32)), .int ((x_iM 4))]) (rest := []) ⟨hx, hb, hml, hown, hts⟩ (c_M_wrong l dC dI cy ad H.size ((6 : Int32)) ((x_iM 4)) x_iM x_aM q92 e92) (cwV 2 hts (goodV m_ml_X8_194 m_im_X8_wrong m_se_X8_wrong m_in_X8 m_cd_X8_wrong) rfl rfl rfl (by decide +kernel) ⟨Nat.le_of_ble_eq_true rfl, Nat.le_of_ble_eq_true rfl⟩) hN hK hP hD hS hA rfl 0 rfl rfl rfl hl.1 rfl (Nat.le_of_ble_eq_true rfl) dX8_readUnder_92 ⟨Nat.zero_le _, Nat.zero_le _⟩ (fun H locs hP hD hS => ?_)
    exact B95 v1 v2 ((us x_iM [(46, q92.1), (47, q92.2)])) x_aM H locs ls h hP hD hS (lv_sub hl [0, 1, 2] rfl)
  have B48 : ∀ (v1 : Int32) (x_iM : Nat → Int32) (x_aM : Nat → Nat → Int32) (H : Heap) (locs : List Loc) (ls : Array Slot), f_M_readUnder_48 N iM aM v1 x_iM x_aM = some q → va_P (dC, dI) vwCl (zzM ad cy x_iM x_aM) H → va_D A (zzM ad cy x_iM x_aM) → va_S A s.heap H locs → lv_has ls 3 [(0, .ref (ad 0)), (1, .int v1)] → W p l e ({ frames := 3, cells := 0, slots := 0, locals := 68 } : Room) s m args below meth c H locs 0 0 QQ (F0 m 48 ls []) := by
    intro v1 x_iM x_aM H locs ls h hP hD hS hl
    unfold f_M_readUnder_48 at h
    refine lv_aload_n hx hb dX8_readUnder_48 rfl (lv_at hl 0 rfl) ?_
    obtain ⟨q49, e49, h⟩ := g_b h
    refine callVis (cc := cX8_readUnder) (w1 := zzM ad cy (us x_iM [(44, q49.2.1), (46, q49.2.2.1), (47, q49.2.2.2.1)]) (us x_aM [(26, q49.2.2.2.2.1), (27, q49.2.2.2.2.2.1), (29, q49.2.2.2.2.2.2.1), (31, q49.2.2.2.2.2.2.2)])) (As := []) (rest := []) ⟨hx, hb, hml, hown, hts⟩ (c_M_readRole l dC dI cy ad H.size N x_iM x_aM q49 e49) (cwV 0 hts (goodV m_ml_X8_277 m_im_X8_readRole m_se_X8_readRole m_in_X8 m_cd_X8_readRole) rfl rfl rfl (by decide +kernel) ⟨Nat.le_of_ble_eq_true rfl, Nat.le_of_ble_eq_true rfl⟩) hN hK hP hD hS hA rfl 0 rfl rfl rfl hl.1 rfl (Nat.le_of_ble_eq_true rfl) dX8_readUnder_49 ⟨Nat.zero_le _, Nat.zero_le _⟩ (fun H locs hP hD hS => ?_)
    refine lv_istore_n (lv' := [(2, .int q49.1), (0, .ref (ad 0)), (1, .int v1)]) hx hb dX8_readUnder_52 rfl hl (by decide) rfl (fun ls hl => ?_)
    refine lv_aload_n hx hb dX8_readUnder_53 rfl (lv_at hl 1 rfl) ?_
    obtain ⟨q54, e54, h⟩ := g_b h
    refine callVis (cc := cX8_readUnder) (w1 := zzM ad cy (us x_iM [(44, q49.2.1), (46, q49.2.2.1), (47, q49.2.2.2.1)]) (us x_aM [(26, q49.2.2.2.2.1), (27, q49.2.2.2.2.2.1), (29, q49.2.2.2.2.2.2.1), (31, q49.2.2.2.2.2.2.2)])) (As := []) (rest := []) ⟨hx, hb, hml, hown, hts⟩ (c_M_fine l dC dI cy ad H.size ((us x_iM [(44, q49.2.1), (46, q49.2.2.1), (47, q49.2.2.2.1)])) ((us x_aM [(26, q49.2.2.2.2.1), (27, q49.2.2.2.2.2.1), (29, q49.2.2.2.2.2.2.1), (31, q49.2.2.2.2.2.2.2)])) q54 e54) (cwV 0 hts (goodV m_ml_X8_198 m_im_X8_fine m_se_X8_fine m_in_X8 m_cd_X8_fine) rfl rfl rfl (by decide +kernel) ⟨Nat.le_of_ble_eq_true rfl, Nat.le_of_ble_eq_true rfl⟩) hN hK hP hD hS hA rfl 0 rfl rfl rfl hl.1 rfl (Nat.le_of_ble_eq_true rfl) dX8_readUnder_54 ⟨Nat.zero_le _, Nat.zero_le _⟩ (fun H locs hP hD hS => ?_)
    refine lv_if_eq (tgt := 95) hx hb dX8_readUnder_57 (by decide) (fun cz => ?_) (fun cz => ?_)
    · have h := g_t h cz
      exact B95 v1 q49.1 ((us x_iM [(44, q49.2.1), (46, q49.2.2.1), (47, q49.2.2.2.1)])) ((us x_aM [(26, q49.2.2.2.2.1), (27, q49.2.2.2.2.2.1), (29, q49.2.2.2.2.2.2.1), (31, q49.2.2.2.2.2.2.2)])) H locs ls h hP hD hS (lv_sub hl [1, 2, 0] rfl)
    · have h := g_f h cz
      refine lv_aload_n hx hb dX8_readUnder_60 rfl (lv_at hl 1 rfl) ?_
      refine va_get (D := (dC, dI)) (ci := 8) (v := .ref (ad 18)) (C := RX8) (T := TX8) (N := 78) hx hb hts ki8 hown hK hP 0 rfl rfl 29 (by decide) kf63 (fun _ h9 => h9) rfl dX8_readUnder_61 ?_
      refine lv_iconst (v := 3) hx hb dX8_readUnder_64 (by decide) ?_
      refine lv_iload_n hx hb dX8_readUnder_65 rfl (lv_at hl 0 rfl) ?_
      refine lv_iadd hx hb dX8_readUnder_66 ?_
      obtain ⟨g_91, h⟩ := g_n h
      refine va_zald (f := q49.2.2.2.2.2.2.1) hx hb hK hP 18 4 rfl rfl g_91 dX8_readUnder_67 ?_
      refine lv_if_ne (tgt := 85) hx hb dX8_readUnder_68 (by decide) (fun cz => ?_) (fun cz => ?_)
      · have h := g_f h cz
        exact B85 v1 q49.1 ((us x_iM [(44, q49.2.1), (46, q49.2.2.1), (47, q49.2.2.2.1)])) ((us x_aM [(26, q49.2.2.2.2.1), (27, q49.2.2.2.2.2.1), (29, q49.2.2.2.2.2.2.1), (31, q49.2.2.2.2.2.2.2)])) H locs ls h hP hD hS (lv_sub hl [1, 2, 0] rfl)
      · have h := g_t h cz
        refine lv_iload_n hx hb dX8_readUnder_71 rfl (lv_at hl 0 rfl) ?_
        refine lv_iload_n hx hb dX8_readUnder_72 rfl (lv_at hl 2 rfl) ?_
        refine lv_icmp_eq (tgt := 85) hx hb dX8_readUnder_73 (by decide) (fun cz => ?_) (fun cz => ?_)
        · have h := g_t h cz
          exact B85 v1 q49.1 ((us x_iM [(44, q49.2.1), (46, q49.2.2.1), (47, q49.2.2.2.1)])) ((us x_aM [(26, q49.2.2.2.2.1), (27, q49.2.2.2.2.2.1), (29, q49.2.2.2.2.2.2.1), (31, q49.2.2.2.2.2.2.2)])) H locs ls h hP hD hS (lv_sub hl [1, 2, 0] rfl)
        · have h := g_f h cz
          refine lv_aload_n hx hb dX8_readUnder_76 rfl (lv_at hl 1 rfl) ?_
          refine lv_iload_n hx hb dX8_readUnder_77 rfl (lv_at hl 0 rfl) ?_
          refine lv_iload_n hx hb dX8_readUnder_78 rfl (lv_at hl 2 rfl) ?_
          obtain ⟨q79, e79, h⟩ := g_b h
          refine callVis (cc := cX8_readUnder) (w1 := zzM ad cy (us x_iM [(44, q49.2.1), (46, q49.2.2.1), (47, q49.2.2.2.1)]) (us x_aM [(26, q49.2.2.2.2.1), (27, q49.2.2.2.2.2.1), (29, q49.2.2.2.2.2.2.1), (31, q49.2.2.2.2.2.2.2)])) (As := [.int q49.1, .int v1]) (rest := []) ⟨hx, hb, hml, hown, hts⟩ (c_M_reaches l dC dI cy ad H.size N q49.1 v1 ((us x_iM [(44, q49.2.1), (46, q49.2.2.1), (47, q49.2.2.2.1)])) ((us x_aM [(26, q49.2.2.2.2.1), (27, q49.2.2.2.2.2.1), (29, q49.2.2.2.2.2.2.1), (31, q49.2.2.2.2.2.2.2)])) q79 e79) (cwV 2 hts (goodV m_ml_X8_298 m_im_X8_reaches m_se_X8_reaches m_in_X8 m_cd_X8_reaches) rfl rfl rfl (by decide +kernel) ⟨Nat.le_of_ble_eq_true rfl, Nat.le_of_ble_eq_true rfl⟩) hN hK hP hD hS hA rfl 0 rfl rfl rfl hl.1 rfl (Nat.le_of_ble_eq_true rfl) dX8_readUnder_79 ⟨Nat.zero_le _, Nat.zero_le _⟩ (fun H locs hP hD hS => ?_)
          refine lv_if_eq (tgt := 95) hx hb dX8_readUnder_82 (by decide) (fun cz => ?_) (fun cz => ?_)
          · have h := g_t h cz
            exact B95 v1 q49.1 ((us x_iM [(44, q49.2.1), (46, q49.2.2.1), (47, q49.2.2.2.1)])) ((us x_aM [(26, q49.2.2.2.2.1), (27, q49.2.2.2.2.2.1), (29, q49.2.2.2.2.2.2.1), (31, q49.2.2.2.2.2.2.2)])) H locs ls h hP hD hS (lv_sub hl [1, 2, 0] rfl)
          · have h := g_f h cz
            exact B85 v1 q49.1 ((us x_iM [(44, q49.2.1), (46, q49.2.2.1), (47, q49.2.2.2.1)])) ((us x_aM [(26, q49.2.2.2.2.1), (27, q49.2.2.2.2.2.1), (29, q49.2.2.2.2.2.2.1), (31, q49.2.2.2.2.2.2.2)])) H locs ls h hP hD hS (lv_sub hl [1, 2, 0] rfl)
  have B37 : ∀ (v1 : Int32) (x_iM : Nat → Int32) (x_aM : Nat → Nat → Int32) (H : Heap) (locs : List Loc) (ls : Array Slot), f_M_readUnder_37 N iM aM v1 x_iM x_aM = some q → va_P (dC, dI) vwCl (zzM ad cy x_iM x_aM) H → va_D A (zzM ad cy x_iM x_aM) → va_S A s.heap H locs → lv_has ls 3 [(0, .ref (ad 0)), (1, .int v1)] → W p l e ({ frames := 3, cells := 0, slots := 0, locals := 68 } : Room) s m args below meth c H locs 0 0 QQ (F0 m 37 ls []) := by
    intro v1 x_iM x_aM H locs ls h hP hD hS hl
    unfold f_M_readUnder_37 at h
    refine lv_aload_n hx hb dX8_readUnder_37 rfl (lv_at hl 0 rfl) ?_
    obtain ⟨q38, e38, h⟩ := g_b h
    refine callVis (cc := cX8_readUnder) (w1 := zzM ad cy x_iM x_aM) (As := []) (rest := []) ⟨hx, hb, hml, hown, hts⟩ (c_M_fine l dC dI cy ad H.size x_iM x_aM q38 e38) (cwV 0 hts (goodV m_ml_X8_198 m_im_X8_fine m_se_X8_fine m_in_X8 m_cd_X8_fine) rfl rfl rfl (by decide +kernel) ⟨Nat.le_of_ble_eq_true rfl, Nat.le_of_ble_eq_true rfl⟩) hN hK hP hD hS hA rfl 0 rfl rfl rfl hl.1 rfl (Nat.le_of_ble_eq_true rfl) dX8_readUnder_38 ⟨Nat.zero_le _, Nat.zero_le _⟩ (fun H locs hP hD hS => ?_)
    refine lv_if_eq (tgt := 48) hx hb dX8_readUnder_41 (by decide) (fun cz => ?_) (fun cz => ?_)
    · have h := g_t h cz
      exact B48 v1 x_iM x_aM H locs ls h hP hD hS (lv_sub hl [0, 1] rfl)
    · have h := g_f h cz
      refine lv_aload_n hx hb dX8_readUnder_44 rfl (lv_at hl 0 rfl) ?_
      obtain ⟨q45, e45, h⟩ := g_b h
      refine callVvs (cc := cX8_readUnder) (w1 := zzM ad cy (us x_iM [(2, q45.1), (3, q45.2.1), (4, q45.2.2.1), (5, q45.2.2.2.1), (6, q45.2.2.2.2)]) x_aM) (As := []) (rest := []) ⟨hx, hb, hml, hown, hts⟩ (c_M_next l dC dI cy ad H.size N x_iM x_aM q45 e45) (cwV 0 hts (goodV m_ml_X8_205 m_im_X8_next m_se_X8_next m_in_X8 m_cd_X8_next) rfl rfl rfl (by decide +kernel) ⟨Nat.le_of_ble_eq_true rfl, Nat.le_of_ble_eq_true rfl⟩) hN hK hP hD hS hA rfl 0 rfl rfl rfl hl.1 rfl (Nat.le_of_ble_eq_true rfl) dX8_readUnder_45 ⟨Nat.zero_le _, Nat.zero_le _⟩ (fun H locs hP hD hS => ?_)
      exact B48 v1 ((us x_iM [(2, q45.1), (3, q45.2.1), (4, q45.2.2.1), (5, q45.2.2.2.1), (6, q45.2.2.2.2)])) x_aM H locs ls h hP hD hS (lv_sub hl [0, 1] rfl)
  intro H locs hP hD hS
  unfold f_M_readUnder at h
  refine lv_aload_n hx hb dX8_readUnder_0 rfl (lv_at hl 0 rfl) ?_
  obtain ⟨q1, e1, h⟩ := g_b h
  refine callVvs (cc := cX8_readUnder) (w1 := zzM ad cy (us iM [(2, q1.1), (3, q1.2.1), (4, q1.2.2.1), (5, q1.2.2.2.1), (6, q1.2.2.2.2)]) aM) (As := []) (rest := []) ⟨hx, hb, hml, hown, hts⟩ (c_M_next l dC dI cy ad H.size N iM aM q1 e1) (cwV 0 hts (goodV m_ml_X8_205 m_im_X8_next m_se_X8_next m_in_X8 m_cd_X8_next) rfl rfl rfl (by decide +kernel) ⟨Nat.le_of_ble_eq_true rfl, Nat.le_of_ble_eq_true rfl⟩) hN hK hP hD hS hA rfl 0 rfl rfl rfl hl.1 rfl (Nat.le_of_ble_eq_true rfl) dX8_readUnder_1 ⟨Nat.zero_le _, Nat.zero_le _⟩ (fun H locs hP hD hS => ?_)
  refine lv_aload_n hx hb dX8_readUnder_4 rfl (lv_at hl 0 rfl) ?_
  obtain ⟨q5, e5, h⟩ := g_b h
  refine callVis (cc := cX8_readUnder) (w1 := zzM ad cy (us iM [(2, q1.1), (3, q1.2.1), (4, q1.2.2.1), (5, q1.2.2.2.1), (6, q1.2.2.2.2), (44, q5.2.1), (46, q5.2.2.1), (47, q5.2.2.2.1)]) (us aM [(26, q5.2.2.2.2.1), (27, q5.2.2.2.2.2.1), (29, q5.2.2.2.2.2.2.1), (31, q5.2.2.2.2.2.2.2)])) (As := []) (rest := []) ⟨hx, hb, hml, hown, hts⟩ (c_M_readRole l dC dI cy ad H.size N ((us iM [(2, q1.1), (3, q1.2.1), (4, q1.2.2.1), (5, q1.2.2.2.1), (6, q1.2.2.2.2)])) aM q5 e5) (cwV 0 hts (goodV m_ml_X8_277 m_im_X8_readRole m_se_X8_readRole m_in_X8 m_cd_X8_readRole) rfl rfl rfl (by decide +kernel) ⟨Nat.le_of_ble_eq_true rfl, Nat.le_of_ble_eq_true rfl⟩) hN hK hP hD hS hA rfl 0 rfl rfl rfl hl.1 rfl (Nat.le_of_ble_eq_true rfl) dX8_readUnder_5 ⟨Nat.zero_le _, Nat.zero_le _⟩ (fun H locs hP hD hS => ?_)
  refine lv_istore_n (lv' := [(1, .int q5.1), (0, .ref (ad 0))]) hx hb dX8_readUnder_8 rfl hl (by decide) rfl (fun ls hl => ?_)
  refine lv_aload_n hx hb dX8_readUnder_9 rfl (lv_at hl 1 rfl) ?_
  obtain ⟨q10, e10, h⟩ := g_b h
  refine callVis (cc := cX8_readUnder) (w1 := zzM ad cy (us iM [(2, q1.1), (3, q1.2.1), (4, q1.2.2.1), (5, q1.2.2.2.1), (6, q1.2.2.2.2), (44, q5.2.1), (46, q5.2.2.1), (47, q5.2.2.2.1)]) (us aM [(26, q5.2.2.2.2.1), (27, q5.2.2.2.2.2.1), (29, q5.2.2.2.2.2.2.1), (31, q5.2.2.2.2.2.2.2)])) (As := []) (rest := []) ⟨hx, hb, hml, hown, hts⟩ (c_M_fine l dC dI cy ad H.size ((us iM [(2, q1.1), (3, q1.2.1), (4, q1.2.2.1), (5, q1.2.2.2.1), (6, q1.2.2.2.2), (44, q5.2.1), (46, q5.2.2.1), (47, q5.2.2.2.1)])) ((us aM [(26, q5.2.2.2.2.1), (27, q5.2.2.2.2.2.1), (29, q5.2.2.2.2.2.2.1), (31, q5.2.2.2.2.2.2.2)])) q10 e10) (cwV 0 hts (goodV m_ml_X8_198 m_im_X8_fine m_se_X8_fine m_in_X8 m_cd_X8_fine) rfl rfl rfl (by decide +kernel) ⟨Nat.le_of_ble_eq_true rfl, Nat.le_of_ble_eq_true rfl⟩) hN hK hP hD hS hA rfl 0 rfl rfl rfl hl.1 rfl (Nat.le_of_ble_eq_true rfl) dX8_readUnder_10 ⟨Nat.zero_le _, Nat.zero_le _⟩ (fun H locs hP hD hS => ?_)
  refine lv_if_eq (tgt := 37) hx hb dX8_readUnder_13 (by decide) (fun cz => ?_) (fun cz => ?_)
  · have h := g_t h cz
    exact B37 q5.1 ((us iM [(2, q1.1), (3, q1.2.1), (4, q1.2.2.1), (5, q1.2.2.2.1), (6, q1.2.2.2.2), (44, q5.2.1), (46, q5.2.2.1), (47, q5.2.2.2.1)])) ((us aM [(26, q5.2.2.2.2.1), (27, q5.2.2.2.2.2.1), (29, q5.2.2.2.2.2.2.1), (31, q5.2.2.2.2.2.2.2)])) H locs ls h hP hD hS (lv_sub hl [1, 0] rfl)
  · have h := g_f h cz
    refine lv_aload_n hx hb dX8_readUnder_16 rfl (lv_at hl 1 rfl) ?_
    refine va_get (D := (dC, dI)) (ci := 8) (v := .ref (ad 18)) (C := RX8) (T := TX8) (N := 78) hx hb hts ki8 hown hK hP 0 rfl rfl 29 (by decide) kf63 (fun _ h9 => h9) rfl dX8_readUnder_17 ?_
    refine lv_iconst (v := 3) hx hb dX8_readUnder_20 (by decide) ?_
    refine lv_iload_n hx hb dX8_readUnder_21 rfl (lv_at hl 0 rfl) ?_
    refine lv_iadd hx hb dX8_readUnder_22 ?_
    obtain ⟨g_92, h⟩ := g_n h
    refine va_zald (f := q5.2.2.2.2.2.2.1) hx hb hK hP 18 4 rfl rfl g_92 dX8_readUnder_23 ?_
    refine lv_if_eq (tgt := 37) hx hb dX8_readUnder_24 (by decide) (fun cz => ?_) (fun cz => ?_)
    · have h := g_t h cz
      exact B37 q5.1 ((us iM [(2, q1.1), (3, q1.2.1), (4, q1.2.2.1), (5, q1.2.2.2.1), (6, q1.2.2.2.2), (44, q5.2.1), (46, q5.2.2.1), (47, q5.2.2.2.1)])) ((us aM [(26, q5.2.2.2.2.1), (27, q5.2.2.2.2.2.1), (29, q5.2.2.2.2.2.2.1), (31, q5.2.2.2.2.2.2.2)])) H locs ls h hP hD hS (lv_sub hl [1, 0] rfl)
    · have h := g_f h cz
      refine lv_aload_n hx hb dX8_readUnder_27 rfl (lv_at hl 1 rfl) ?_
      refine lv_bipush (v := 6) hx hb dX8_readUnder_28 (by decide) ?_
      refine lv_aload_n hx hb dX8_readUnder_30 rfl (lv_at hl 1 rfl) ?_
      refine va_get (D := (dC, dI)) (ci := 8) (v := .int q1.2.2.1) (C := RX8) (T := TX8) (N := 78) hx hb hts ki8 hown hK hP 0 rfl rfl 4 (by decide) kf169 (fun _ h9 => h9) rfl dX8_readUnder_31 ?_
      obtain ⟨q34, e34, h⟩ := g_b h
      refine callVvs (cc := cX8_readUnder) (w1 := zzM ad cy (us iM [(2, q1.1), (3, q1.2.1), (4, q1.2.2.1), (5, q1.2.2.2.1), (6, q1.2.2.2.2), (44, q5.2.1), (46, q34.1), (47, q34.2)]) (us aM [(26, q5.2.2.2.2.1), (27, q5.2.2.2.2.2.1), (29, q5.2.2.2.2.2.2.1), (31, q5.2.2.2.2.2.2.2)])) (As := [.int ((6 : Int32)), .int q1.2.2.1]) (rest := []) ⟨hx, hb, hml, hown, hts⟩ (c_M_wrong l dC dI cy ad H.size ((6 : Int32)) q1.2.2.1 ((us iM [(2, q1.1), (3, q1.2.1), (4, q1.2.2.1), (5, q1.2.2.2.1), (6, q1.2.2.2.2), (44, q5.2.1), (46, q5.2.2.1), (47, q5.2.2.2.1)])) ((us aM [(26, q5.2.2.2.2.1), (27, q5.2.2.2.2.2.1), (29, q5.2.2.2.2.2.2.1), (31, q5.2.2.2.2.2.2.2)])) q34 e34) (cwV 2 hts (goodV m_ml_X8_194 m_im_X8_wrong m_se_X8_wrong m_in_X8 m_cd_X8_wrong) rfl rfl rfl (by decide +kernel) ⟨Nat.le_of_ble_eq_true rfl, Nat.le_of_ble_eq_true rfl⟩) hN hK hP hD hS hA rfl 0 rfl rfl rfl hl.1 rfl (Nat.le_of_ble_eq_true rfl) dX8_readUnder_34 ⟨Nat.zero_le _, Nat.zero_le _⟩ (fun H locs hP hD hS => ?_)
      exact B37 q5.1 ((us iM [(2, q1.1), (3, q1.2.1), (4, q1.2.2.1), (5, q1.2.2.2.1), (6, q1.2.2.2.2), (44, q5.2.1), (46, q34.1), (47, q34.2)])) ((us aM [(26, q5.2.2.2.2.1), (27, q5.2.2.2.2.2.1), (29, q5.2.2.2.2.2.2.1), (31, q5.2.2.2.2.2.2.2)])) H locs ls h hP hD hS (lv_sub hl [1, 0] rfl)
set_option maxHeartbeats 8000000 in
set_option maxRecDepth 100000 in
theorem c_M_readSingle (l : Launch) (dC : Nat → ClassId) (dI : Nat → Nat → Nat) (cy : Nat → ClassId) (ad : Nat → Nat) (sz : Nat) (N : Nat) (iM : Nat → Int32) (aM : Nat → Nat → Int32) (q : (Nat → Int32) × (Nat → Nat → Int32)) (h : f_M_readSingle N iM aM = some q) : Met l yX8_readSingle wsX8_readSingle ({ frames := 3, cells := 0, slots := 0, locals := 68 } : Room) (cP (dC, dI) cy [.ref (ad 0)] (zzM ad cy iM aM) sz) (cQv (dC, dI) cy (zzM ad cy q.1 q.2) (va_A (zzM ad cy iM aM) sz)) 0 0 (va_A (zzM ad cy iM aM) sz) := by
  refine Met.ofW (cc := cX8_readSingle) (maxL := 2) (ret := none) (by decide) rfl ?_
  intro p e s m args below meth c s₁ B hml hv
  obtain ⟨hav, hsz, hP, hK, hD0, hN⟩ := hv
  have hx := B.exec
  have hb := B.bytes
  have hr := B.returns
  have hts := atoms_spec (ws := wsX8_readSingle) B.pre
  have hown : s.vm.findClass RX8 = some m.cls := findClass_of_methodNamed B.named
  have hlocks := B.notSynchronized
  subst hsz
  have hD := hD0.self (sz := s.heap.size)
  generalize hAe : va_A (zzM ad cy iM aM) s.heap.size = A at hD ⊢
  have hA : ∀ q : Nat, s.heap.size ≤ q → A q := fun q h => by rw [← hAe]; exact Or.inr h
  have hS : va_S A s.heap s.heap [] := va_S.rf
  generalize hWQ : (zzM ad cy q.1 q.2) = WQ
  generalize hQQ : MQ below (cQv (dC, dI) cy WQ A) args s 0 0 A = QQ
  have hl := lv_entry ([.ref (ad 0)] : List Value) (n := 2) (Nat.le_of_ble_eq_true rfl)
  have hfr := lg_entry_eq m ([.ref (ad 0)] : List Value) 2
  rw [← hav] at hfr
  rw [hfr]
  clear hfr hav
  generalize (lg_sl ([.ref (ad 0)] : List Value) ++ List.replicate (2 - (lg_sl ([.ref (ad 0)] : List Value)).length) Slot.unset).toArray = ls at hl ⊢
  have hl : lv_has ls 2 [(0, .ref (ad 0))] := hl
  have kf63 := hts _ (List.mem_cons_of_mem _ m_fl_X8_63)
  have ki8 := (fun w h => List.mem_cons_of_mem _ (i_X8 w h) : ∀ w ∈ u_ws RX8 TX8 78, w ∈ wsX8_readSingle)
  have kf70 := hts _ (List.mem_cons_of_mem _ m_fl_X8_70)
  have kf169 := hts _ (List.mem_cons_of_mem _ m_fl_X8_169)
  refine (?_ : ∀ (H : Heap) (locs : List Loc), va_P (dC, dI) vwCl (zzM ad cy iM aM) H → va_D A (zzM ad cy iM aM) → va_S A s.heap H locs → W p l e ({ frames := 3, cells := 0, slots := 0, locals := 68 } : Room) s m args below meth c H locs 0 0 QQ (F0 m 0 ls [])) s.heap [] hP hD hS
  clear hP hD hS
  have B37 : ∀ (v1 : Int32) (x_iM : Nat → Int32) (x_aM : Nat → Nat → Int32) (H : Heap) (locs : List Loc) (ls : Array Slot), f_M_readSingle_37 N iM aM v1 x_iM x_aM = some q → va_P (dC, dI) vwCl (zzM ad cy x_iM x_aM) H → va_D A (zzM ad cy x_iM x_aM) → va_S A s.heap H locs → lv_has ls 2 [(0, .ref (ad 0)), (1, .int v1)] → W p l e ({ frames := 3, cells := 0, slots := 0, locals := 68 } : Room) s m args below meth c H locs 0 0 QQ (F0 m 37 ls []) := by
    intro v1 x_iM x_aM H locs ls h hP hD hS hl
    unfold f_M_readSingle_37 at h
    refine lv_aload_n hx hb dX8_readSingle_37 rfl (lv_at hl 0 rfl) ?_
    obtain ⟨q38, e38, h⟩ := g_b h
    refine callVis (cc := cX8_readSingle) (w1 := zzM ad cy x_iM x_aM) (As := []) (rest := []) ⟨hx, hb, hml, hown, hts⟩ (c_M_fine l dC dI cy ad H.size x_iM x_aM q38 e38) (cwV 0 hts (goodV m_ml_X8_198 m_im_X8_fine m_se_X8_fine m_in_X8 m_cd_X8_fine) rfl rfl rfl (by decide +kernel) ⟨Nat.le_of_ble_eq_true rfl, Nat.le_of_ble_eq_true rfl⟩) hN hK hP hD hS hA rfl 0 rfl rfl rfl hl.1 rfl (Nat.le_of_ble_eq_true rfl) dX8_readSingle_38 ⟨Nat.zero_le _, Nat.zero_le _⟩ (fun H locs hP hD hS => ?_)
    refine lv_if_eq (tgt := 64) hx hb dX8_readSingle_41 (by decide) (fun cz => ?_) (fun cz => ?_)
    · have h := g_t h cz
      have h' := Option.some.inj h
      rw [← hQQ]
      exact W.vret hx hb hr (fun t ht hW => ⟨⟨(), rfl, trivial, by rw [← hWQ, ← h', ht]; exact hP, va_K.moved hW.alike hK⟩, hS.F ht⟩) hS.2.2 dX8_readSingle_64
    · have h := g_f h cz
      refine lv_aload_n hx hb dX8_readSingle_44 rfl (lv_at hl 0 rfl) ?_
      obtain ⟨q45, e45, h⟩ := g_b h
      refine callVvs (cc := cX8_readSingle) (w1 := zzM ad cy (us x_iM [(2, q45.1), (3, q45.2.1), (4, q45.2.2.1), (5, q45.2.2.2.1), (6, q45.2.2.2.2)]) x_aM) (As := []) (rest := []) ⟨hx, hb, hml, hown, hts⟩ (c_M_next l dC dI cy ad H.size N x_iM x_aM q45 e45) (cwV 0 hts (goodV m_ml_X8_205 m_im_X8_next m_se_X8_next m_in_X8 m_cd_X8_next) rfl rfl rfl (by decide +kernel) ⟨Nat.le_of_ble_eq_true rfl, Nat.le_of_ble_eq_true rfl⟩) hN hK hP hD hS hA rfl 0 rfl rfl rfl hl.1 rfl (Nat.le_of_ble_eq_true rfl) dX8_readSingle_45 ⟨Nat.zero_le _, Nat.zero_le _⟩ (fun H locs hP hD hS => ?_)
      refine lv_aload_n hx hb dX8_readSingle_48 rfl (lv_at hl 0 rfl) ?_
      refine va_get (D := (dC, dI)) (ci := 8) (v := .ref (ad 18)) (C := RX8) (T := TX8) (N := 78) hx hb hts ki8 hown hK hP 0 rfl rfl 29 (by decide) kf63 (fun _ h9 => h9) rfl dX8_readSingle_49 ?_
      refine lv_iconst (v := 3) hx hb dX8_readSingle_52 (by decide) ?_
      refine lv_iload_n hx hb dX8_readSingle_53 rfl (lv_at hl 1 rfl) ?_
      refine lv_iadd hx hb dX8_readSingle_54 ?_
      refine lv_iconst (v := 1) hx hb dX8_readSingle_55 (by decide) ?_
      obtain ⟨g_57, h⟩ := g_n h
      refine va_zast (f := (x_aM 29)) hx hb hK hP hD hS 18 4 rfl rfl g_57 dX8_readSingle_56 (fun H locs hP hD hS => ?_)
      have hP : va_P (dC, dI) vwCl (zzM ad cy (us x_iM [(2, q45.1), (3, q45.2.1), (4, q45.2.2.1), (5, q45.2.2.2.1), (6, q45.2.2.2.2)]) (us x_aM [(29, (upd ((x_aM 29)) (((3 : Int32) + v1)).toNatClampNeg (vp_nar .boolean ((1 : Int32)))))])) H := Eq.mp (congrArg (fun w => va_P (dC, dI) vwCl w H) (sfM_aM29 ad cy (us x_iM [(2, q45.1), (3, q45.2.1), (4, q45.2.2.1), (5, q45.2.2.2.1), (6, q45.2.2.2.2)]) x_aM ((upd ((x_aM 29)) (((3 : Int32) + v1)).toNatClampNeg (vp_nar .boolean ((1 : Int32))))))) hP
      have hD : va_D A (zzM ad cy (us x_iM [(2, q45.1), (3, q45.2.1), (4, q45.2.2.1), (5, q45.2.2.2.1), (6, q45.2.2.2.2)]) (us x_aM [(29, (upd ((x_aM 29)) (((3 : Int32) + v1)).toNatClampNeg (vp_nar .boolean ((1 : Int32)))))])) := Eq.mp (congrArg (fun w => va_D A w) (sfM_aM29 ad cy (us x_iM [(2, q45.1), (3, q45.2.1), (4, q45.2.2.1), (5, q45.2.2.2.1), (6, q45.2.2.2.2)]) x_aM ((upd ((x_aM 29)) (((3 : Int32) + v1)).toNatClampNeg (vp_nar .boolean ((1 : Int32))))))) hD
      refine lv_aload_n hx hb dX8_readSingle_57 rfl (lv_at hl 0 rfl) ?_
      refine lv_iconst (v := 4) hx hb dX8_readSingle_58 (by decide) ?_
      refine lv_iload_n hx hb dX8_readSingle_59 rfl (lv_at hl 1 rfl) ?_
      refine lv_iconst (v := (-1)) hx hb dX8_readSingle_60 (by decide) ?_
      obtain ⟨q61, e61, h⟩ := g_b h
      refine callVvs (cc := cX8_readSingle) (w1 := zzM ad cy (us x_iM [(2, q45.1), (3, q45.2.1), (4, q45.2.2.1), (5, q45.2.2.2.1), (6, q45.2.2.2.2), (40, q61.1)]) (us x_aM [(15, q61.2.1), (16, q61.2.2.1), (17, q61.2.2.2), (29, (upd ((x_aM 29)) (((3 : Int32) + v1)).toNatClampNeg (vp_nar .boolean ((1 : Int32)))))])) (As := [.int ((4 : Int32)), .int v1, .int ((-1 : Int32))]) (rest := []) ⟨hx, hb, hml, hown, hts⟩ (c_M_say l dC dI cy ad H.size ((4 : Int32)) v1 ((-1 : Int32)) ((us x_iM [(2, q45.1), (3, q45.2.1), (4, q45.2.2.1), (5, q45.2.2.2.1), (6, q45.2.2.2.2)])) ((us x_aM [(29, (upd ((x_aM 29)) (((3 : Int32) + v1)).toNatClampNeg (vp_nar .boolean ((1 : Int32)))))])) q61 e61) (cwV 3 hts (goodV m_ml_X8_301 m_im_X8_say m_se_X8_say m_in_X8 m_cd_X8_say) rfl rfl rfl (by decide +kernel) ⟨Nat.le_of_ble_eq_true rfl, Nat.le_of_ble_eq_true rfl⟩) hN hK hP hD hS hA rfl 0 rfl rfl rfl hl.1 rfl (Nat.le_of_ble_eq_true rfl) dX8_readSingle_61 ⟨Nat.zero_le _, Nat.zero_le _⟩ (fun H locs hP hD hS => ?_)
      have h' := Option.some.inj h
      rw [← hQQ]
      exact W.vret hx hb hr (fun t ht hW => ⟨⟨(), rfl, trivial, by rw [← hWQ, ← h', ht]; exact hP, va_K.moved hW.alike hK⟩, hS.F ht⟩) hS.2.2 dX8_readSingle_64
  intro H locs hP hD hS
  unfold f_M_readSingle at h
  refine lv_aload_n hx hb dX8_readSingle_0 rfl (lv_at hl 0 rfl) ?_
  obtain ⟨q1, e1, h⟩ := g_b h
  refine callVvs (cc := cX8_readSingle) (w1 := zzM ad cy (us iM [(2, q1.1), (3, q1.2.1), (4, q1.2.2.1), (5, q1.2.2.2.1), (6, q1.2.2.2.2)]) aM) (As := []) (rest := []) ⟨hx, hb, hml, hown, hts⟩ (c_M_next l dC dI cy ad H.size N iM aM q1 e1) (cwV 0 hts (goodV m_ml_X8_205 m_im_X8_next m_se_X8_next m_in_X8 m_cd_X8_next) rfl rfl rfl (by decide +kernel) ⟨Nat.le_of_ble_eq_true rfl, Nat.le_of_ble_eq_true rfl⟩) hN hK hP hD hS hA rfl 0 rfl rfl rfl hl.1 rfl (Nat.le_of_ble_eq_true rfl) dX8_readSingle_1 ⟨Nat.zero_le _, Nat.zero_le _⟩ (fun H locs hP hD hS => ?_)
  refine lv_aload_n hx hb dX8_readSingle_4 rfl (lv_at hl 0 rfl) ?_
  obtain ⟨q5, e5, h⟩ := g_b h
  refine callVis (cc := cX8_readSingle) (w1 := zzM ad cy (us iM [(2, q1.1), (3, q1.2.1), (4, q1.2.2.1), (5, q1.2.2.2.1), (6, q1.2.2.2.2), (44, q5.2.1), (46, q5.2.2.1), (47, q5.2.2.2.1)]) (us aM [(26, q5.2.2.2.2.1), (27, q5.2.2.2.2.2.1), (29, q5.2.2.2.2.2.2.1), (31, q5.2.2.2.2.2.2.2)])) (As := []) (rest := []) ⟨hx, hb, hml, hown, hts⟩ (c_M_readRole l dC dI cy ad H.size N ((us iM [(2, q1.1), (3, q1.2.1), (4, q1.2.2.1), (5, q1.2.2.2.1), (6, q1.2.2.2.2)])) aM q5 e5) (cwV 0 hts (goodV m_ml_X8_277 m_im_X8_readRole m_se_X8_readRole m_in_X8 m_cd_X8_readRole) rfl rfl rfl (by decide +kernel) ⟨Nat.le_of_ble_eq_true rfl, Nat.le_of_ble_eq_true rfl⟩) hN hK hP hD hS hA rfl 0 rfl rfl rfl hl.1 rfl (Nat.le_of_ble_eq_true rfl) dX8_readSingle_5 ⟨Nat.zero_le _, Nat.zero_le _⟩ (fun H locs hP hD hS => ?_)
  refine lv_istore_n (lv' := [(1, .int q5.1), (0, .ref (ad 0))]) hx hb dX8_readSingle_8 rfl hl (by decide) rfl (fun ls hl => ?_)
  refine lv_aload_n hx hb dX8_readSingle_9 rfl (lv_at hl 1 rfl) ?_
  obtain ⟨q10, e10, h⟩ := g_b h
  refine callVis (cc := cX8_readSingle) (w1 := zzM ad cy (us iM [(2, q1.1), (3, q1.2.1), (4, q1.2.2.1), (5, q1.2.2.2.1), (6, q1.2.2.2.2), (44, q5.2.1), (46, q5.2.2.1), (47, q5.2.2.2.1)]) (us aM [(26, q5.2.2.2.2.1), (27, q5.2.2.2.2.2.1), (29, q5.2.2.2.2.2.2.1), (31, q5.2.2.2.2.2.2.2)])) (As := []) (rest := []) ⟨hx, hb, hml, hown, hts⟩ (c_M_fine l dC dI cy ad H.size ((us iM [(2, q1.1), (3, q1.2.1), (4, q1.2.2.1), (5, q1.2.2.2.1), (6, q1.2.2.2.2), (44, q5.2.1), (46, q5.2.2.1), (47, q5.2.2.2.1)])) ((us aM [(26, q5.2.2.2.2.1), (27, q5.2.2.2.2.2.1), (29, q5.2.2.2.2.2.2.1), (31, q5.2.2.2.2.2.2.2)])) q10 e10) (cwV 0 hts (goodV m_ml_X8_198 m_im_X8_fine m_se_X8_fine m_in_X8 m_cd_X8_fine) rfl rfl rfl (by decide +kernel) ⟨Nat.le_of_ble_eq_true rfl, Nat.le_of_ble_eq_true rfl⟩) hN hK hP hD hS hA rfl 0 rfl rfl rfl hl.1 rfl (Nat.le_of_ble_eq_true rfl) dX8_readSingle_10 ⟨Nat.zero_le _, Nat.zero_le _⟩ (fun H locs hP hD hS => ?_)
  refine lv_if_eq (tgt := 37) hx hb dX8_readSingle_13 (by decide) (fun cz => ?_) (fun cz => ?_)
  · have h := g_t h cz
    exact B37 q5.1 ((us iM [(2, q1.1), (3, q1.2.1), (4, q1.2.2.1), (5, q1.2.2.2.1), (6, q1.2.2.2.2), (44, q5.2.1), (46, q5.2.2.1), (47, q5.2.2.2.1)])) ((us aM [(26, q5.2.2.2.2.1), (27, q5.2.2.2.2.2.1), (29, q5.2.2.2.2.2.2.1), (31, q5.2.2.2.2.2.2.2)])) H locs ls h hP hD hS (lv_sub hl [1, 0] rfl)
  · have h := g_f h cz
    refine lv_aload_n hx hb dX8_readSingle_16 rfl (lv_at hl 1 rfl) ?_
    refine va_get (D := (dC, dI)) (ci := 8) (v := .ref (ad 20)) (C := RX8) (T := TX8) (N := 78) hx hb hts ki8 hown hK hP 0 rfl rfl 31 (by decide) kf70 (fun _ h9 => h9) rfl dX8_readSingle_17 ?_
    refine lv_iconst (v := 3) hx hb dX8_readSingle_20 (by decide) ?_
    refine lv_iload_n hx hb dX8_readSingle_21 rfl (lv_at hl 0 rfl) ?_
    refine lv_iadd hx hb dX8_readSingle_22 ?_
    obtain ⟨g_92, h⟩ := g_n h
    refine va_zald (f := q5.2.2.2.2.2.2.2) hx hb hK hP 20 4 rfl rfl g_92 dX8_readSingle_23 ?_
    refine lv_if_eq (tgt := 37) hx hb dX8_readSingle_24 (by decide) (fun cz => ?_) (fun cz => ?_)
    · have h := g_t h cz
      exact B37 q5.1 ((us iM [(2, q1.1), (3, q1.2.1), (4, q1.2.2.1), (5, q1.2.2.2.1), (6, q1.2.2.2.2), (44, q5.2.1), (46, q5.2.2.1), (47, q5.2.2.2.1)])) ((us aM [(26, q5.2.2.2.2.1), (27, q5.2.2.2.2.2.1), (29, q5.2.2.2.2.2.2.1), (31, q5.2.2.2.2.2.2.2)])) H locs ls h hP hD hS (lv_sub hl [1, 0] rfl)
    · have h := g_f h cz
      refine lv_aload_n hx hb dX8_readSingle_27 rfl (lv_at hl 1 rfl) ?_
      refine lv_bipush (v := 6) hx hb dX8_readSingle_28 (by decide) ?_
      refine lv_aload_n hx hb dX8_readSingle_30 rfl (lv_at hl 1 rfl) ?_
      refine va_get (D := (dC, dI)) (ci := 8) (v := .int q1.2.2.1) (C := RX8) (T := TX8) (N := 78) hx hb hts ki8 hown hK hP 0 rfl rfl 4 (by decide) kf169 (fun _ h9 => h9) rfl dX8_readSingle_31 ?_
      obtain ⟨q34, e34, h⟩ := g_b h
      refine callVvs (cc := cX8_readSingle) (w1 := zzM ad cy (us iM [(2, q1.1), (3, q1.2.1), (4, q1.2.2.1), (5, q1.2.2.2.1), (6, q1.2.2.2.2), (44, q5.2.1), (46, q34.1), (47, q34.2)]) (us aM [(26, q5.2.2.2.2.1), (27, q5.2.2.2.2.2.1), (29, q5.2.2.2.2.2.2.1), (31, q5.2.2.2.2.2.2.2)])) (As := [.int ((6 : Int32)), .int q1.2.2.1]) (rest := []) ⟨hx, hb, hml, hown, hts⟩ (c_M_wrong l dC dI cy ad H.size ((6 : Int32)) q1.2.2.1 ((us iM [(2, q1.1), (3, q1.2.1), (4, q1.2.2.1), (5, q1.2.2.2.1), (6, q1.2.2.2.2), (44, q5.2.1), (46, q5.2.2.1), (47, q5.2.2.2.1)])) ((us aM [(26, q5.2.2.2.2.1), (27, q5.2.2.2.2.2.1), (29, q5.2.2.2.2.2.2.1), (31, q5.2.2.2.2.2.2.2)])) q34 e34) (cwV 2 hts (goodV m_ml_X8_194 m_im_X8_wrong m_se_X8_wrong m_in_X8 m_cd_X8_wrong) rfl rfl rfl (by decide +kernel) ⟨Nat.le_of_ble_eq_true rfl, Nat.le_of_ble_eq_true rfl⟩) hN hK hP hD hS hA rfl 0 rfl rfl rfl hl.1 rfl (Nat.le_of_ble_eq_true rfl) dX8_readSingle_34 ⟨Nat.zero_le _, Nat.zero_le _⟩ (fun H locs hP hD hS => ?_)
      exact B37 q5.1 ((us iM [(2, q1.1), (3, q1.2.1), (4, q1.2.2.1), (5, q1.2.2.2.1), (6, q1.2.2.2.2), (44, q5.2.1), (46, q34.1), (47, q34.2)])) ((us aM [(26, q5.2.2.2.2.1), (27, q5.2.2.2.2.2.1), (29, q5.2.2.2.2.2.2.1), (31, q5.2.2.2.2.2.2.2)])) H locs ls h hP hD hS (lv_sub hl [1, 0] rfl)
set_option maxHeartbeats 8000000 in
set_option maxRecDepth 100000 in
theorem c_M_readAsk (l : Launch) (dC : Nat → ClassId) (dI : Nat → Nat → Nat) (cy : Nat → ClassId) (ad : Nat → Nat) (sz : Nat) (N : Nat) (iM : Nat → Int32) (aM : Nat → Nat → Int32) (q : (Nat → Int32) × (Nat → Nat → Int32)) (h : f_M_readAsk N iM aM = some q) : Met l yX8_readAsk wsX8_readAsk ({ frames := 6, cells := 0, slots := 0, locals := 136 } : Room) (cP (dC, dI) cy [.ref (ad 0)] (zzM ad cy iM aM) sz) (cQv (dC, dI) cy (zzM ad cy q.1 q.2) (va_A (zzM ad cy iM aM) sz)) 0 0 (va_A (zzM ad cy iM aM) sz) := by
  refine Met.ofW (cc := cX8_readAsk) (maxL := 2) (ret := none) (by decide) rfl ?_
  intro p e s m args below meth c s₁ B hml hv
  obtain ⟨hav, hsz, hP, hK, hD0, hN⟩ := hv
  have hx := B.exec
  have hb := B.bytes
  have hr := B.returns
  have hts := atoms_spec (ws := wsX8_readAsk) B.pre
  have hown : s.vm.findClass RX8 = some m.cls := findClass_of_methodNamed B.named
  have hlocks := B.notSynchronized
  subst hsz
  have hD := hD0.self (sz := s.heap.size)
  generalize hAe : va_A (zzM ad cy iM aM) s.heap.size = A at hD ⊢
  have hA : ∀ q : Nat, s.heap.size ≤ q → A q := fun q h => by rw [← hAe]; exact Or.inr h
  have hS : va_S A s.heap s.heap [] := va_S.rf
  generalize hWQ : (zzM ad cy q.1 q.2) = WQ
  generalize hQQ : MQ below (cQv (dC, dI) cy WQ A) args s 0 0 A = QQ
  have hl := lv_entry ([.ref (ad 0)] : List Value) (n := 2) (Nat.le_of_ble_eq_true rfl)
  have hfr := lg_entry_eq m ([.ref (ad 0)] : List Value) 2
  rw [← hav] at hfr
  rw [hfr]
  clear hfr hav
  generalize (lg_sl ([.ref (ad 0)] : List Value) ++ List.replicate (2 - (lg_sl ([.ref (ad 0)] : List Value)).length) Slot.unset).toArray = ls at hl ⊢
  have hl : lv_has ls 2 [(0, .ref (ad 0))] := hl
  have kf305 := hts _ (List.mem_cons_of_mem _ m_fl_X8_305)
  have ki8 := (fun w h => List.mem_cons_of_mem _ (i_X8 w h) : ∀ w ∈ u_ws RX8 TX8 78, w ∈ wsX8_readAsk)
  have kf48 := hts _ (List.mem_cons_of_mem _ m_fl_X8_48)
  have kf169 := hts _ (List.mem_cons_of_mem _ m_fl_X8_169)
  refine (?_ : ∀ (H : Heap) (locs : List Loc), va_P (dC, dI) vwCl (zzM ad cy iM aM) H → va_D A (zzM ad cy iM aM) → va_S A s.heap H locs → W p l e ({ frames := 6, cells := 0, slots := 0, locals := 136 } : Room) s m args below meth c H locs 0 0 QQ (F0 m 0 ls [])) s.heap [] hP hD hS
  clear hP hD hS
  intro H locs hP hD hS
  unfold f_M_readAsk at h
  refine lv_aload_n hx hb dX8_readAsk_0 rfl (lv_at hl 0 rfl) ?_
  refine va_get (D := (dC, dI)) (ci := 8) (v := .int ((iM 42))) (C := RX8) (T := TX8) (N := 78) hx hb hts ki8 hown hK hP 0 rfl rfl 42 (by decide) kf305 (fun _ h9 => h9) rfl dX8_readAsk_1 ?_
  refine lv_bipush (v := 12) hx hb dX8_readAsk_4 (by decide) ?_
  refine lv_icmp_ne (tgt := 19) hx hb dX8_readAsk_6 (by decide) (fun cz => ?_) (fun cz => ?_)
  · have h := g_f h cz
    refine lv_aload_n hx hb dX8_readAsk_19 rfl (lv_at hl 0 rfl) ?_
    obtain ⟨q20, e20, h⟩ := g_b h
    refine callVvs (cc := cX8_readAsk) (w1 := zzM ad cy (us iM [(2, q20.1), (3, q20.2.1), (4, q20.2.2.1), (5, q20.2.2.2.1), (6, q20.2.2.2.2)]) aM) (As := []) (rest := []) ⟨hx, hb, hml, hown, hts⟩ (c_M_next l dC dI cy ad H.size N iM aM q20 e20) (cwV 0 hts (goodV m_ml_X8_205 m_im_X8_next m_se_X8_next m_in_X8 m_cd_X8_next) rfl rfl rfl (by decide +kernel) ⟨Nat.le_of_ble_eq_true rfl, Nat.le_of_ble_eq_true rfl⟩) hN hK hP hD hS hA rfl 0 rfl rfl rfl hl.1 rfl (Nat.le_of_ble_eq_true rfl) dX8_readAsk_20 ⟨Nat.zero_le _, Nat.zero_le _⟩ (fun H locs hP hD hS => ?_)
    refine lv_aload_n hx hb dX8_readAsk_23 rfl (lv_at hl 0 rfl) ?_
    obtain ⟨q24, e24, h⟩ := g_b h
    refine callVis (cc := cX8_readAsk) (w1 := zzM ad cy q24.2.1 q24.2.2) (As := []) (rest := []) ⟨hx, hb, hml, hown, hts⟩ (c_M_readConcept l dC dI cy ad H.size N ((us iM [(2, q20.1), (3, q20.2.1), (4, q20.2.2.1), (5, q20.2.2.2.1), (6, q20.2.2.2.2)])) aM q24 e24) (cwV 0 hts (goodV m_ml_X8_308 m_im_X8_readConcept m_se_X8_readConcept m_in_X8 m_cd_X8_readConcept) rfl rfl rfl (by decide +kernel) ⟨Nat.le_of_ble_eq_true rfl, Nat.le_of_ble_eq_true rfl⟩) hN hK hP hD hS hA rfl 0 rfl rfl rfl hl.1 rfl (Nat.le_of_ble_eq_true rfl) dX8_readAsk_24 ⟨Nat.zero_le _, Nat.zero_le _⟩ (fun H locs hP hD hS => ?_)
    refine lv_istore_n (lv' := [(1, .int q24.1), (0, .ref (ad 0))]) hx hb dX8_readAsk_27 rfl hl (by decide) rfl (fun ls hl => ?_)
    refine lv_aload_n hx hb dX8_readAsk_28 rfl (lv_at hl 1 rfl) ?_
    obtain ⟨q29, e29, h⟩ := g_b h
    refine callVis (cc := cX8_readAsk) (w1 := zzM ad cy q24.2.1 q24.2.2) (As := []) (rest := []) ⟨hx, hb, hml, hown, hts⟩ (c_M_fine l dC dI cy ad H.size q24.2.1 q24.2.2 q29 e29) (cwV 0 hts (goodV m_ml_X8_198 m_im_X8_fine m_se_X8_fine m_in_X8 m_cd_X8_fine) rfl rfl rfl (by decide +kernel) ⟨Nat.le_of_ble_eq_true rfl, Nat.le_of_ble_eq_true rfl⟩) hN hK hP hD hS hA rfl 0 rfl rfl rfl hl.1 rfl (Nat.le_of_ble_eq_true rfl) dX8_readAsk_29 ⟨Nat.zero_le _, Nat.zero_le _⟩ (fun H locs hP hD hS => ?_)
    refine lv_if_eq (tgt := 68) hx hb dX8_readAsk_32 (by decide) (fun cz => ?_) (fun cz => ?_)
    · have h := g_t h cz
      have h' := Option.some.inj h
      rw [← hQQ]
      exact W.vret hx hb hr (fun t ht hW => ⟨⟨(), rfl, trivial, by rw [← hWQ, ← h', ht]; exact hP, va_K.moved hW.alike hK⟩, hS.F ht⟩) hS.2.2 dX8_readAsk_68
    · have h := g_f h cz
      refine lv_aload_n hx hb dX8_readAsk_35 rfl (lv_at hl 1 rfl) ?_
      refine va_get (D := (dC, dI)) (ci := 8) (v := .ref (ad 13)) (C := RX8) (T := TX8) (N := 78) hx hb hts ki8 hown hK hP 0 rfl rfl 21 (by decide) kf48 (fun _ h9 => h9) rfl dX8_readAsk_36 ?_
      refine lv_bipush (v := 12) hx hb dX8_readAsk_39 (by decide) ?_
      refine lv_aload_n hx hb dX8_readAsk_41 rfl (lv_at hl 1 rfl) ?_
      refine va_get (D := (dC, dI)) (ci := 8) (v := .int ((q24.2.1 42))) (C := RX8) (T := TX8) (N := 78) hx hb hts ki8 hown hK hP 0 rfl rfl 42 (by decide) kf305 (fun _ h9 => h9) rfl dX8_readAsk_42 ?_
      refine lv_iadd hx hb dX8_readAsk_45 ?_
      refine lv_iload_n hx hb dX8_readAsk_46 rfl (lv_at hl 0 rfl) ?_
      obtain ⟨g_93, h⟩ := g_n h
      refine va_iast (f := (q24.2.2 21)) hx hb hK hP hD hS 13 0 rfl rfl g_93 dX8_readAsk_47 (fun H locs hP hD hS => ?_)
      have hP : va_P (dC, dI) vwCl (zzM ad cy q24.2.1 (us q24.2.2 [(21, (upd ((q24.2.2 21)) (((12 : Int32) + (q24.2.1 42))).toNatClampNeg q24.1))])) H := Eq.mp (congrArg (fun w => va_P (dC, dI) vwCl w H) (sfM_aM21 ad cy q24.2.1 q24.2.2 ((upd ((q24.2.2 21)) (((12 : Int32) + (q24.2.1 42))).toNatClampNeg q24.1)))) hP
      have hD : va_D A (zzM ad cy q24.2.1 (us q24.2.2 [(21, (upd ((q24.2.2 21)) (((12 : Int32) + (q24.2.1 42))).toNatClampNeg q24.1))])) := Eq.mp (congrArg (fun w => va_D A w) (sfM_aM21 ad cy q24.2.1 q24.2.2 ((upd ((q24.2.2 21)) (((12 : Int32) + (q24.2.1 42))).toNatClampNeg q24.1)))) hD
      refine lv_aload_n hx hb dX8_readAsk_48 rfl (lv_at hl 1 rfl) ?_
      refine lv_iconst (v := 2) hx hb dX8_readAsk_49 (by decide) ?_
      refine lv_iload_n hx hb dX8_readAsk_50 rfl (lv_at hl 0 rfl) ?_
      refine lv_aload_n hx hb dX8_readAsk_51 rfl (lv_at hl 1 rfl) ?_
      refine va_get (D := (dC, dI)) (ci := 8) (v := .int ((q24.2.1 42))) (C := RX8) (T := TX8) (N := 78) hx hb hts ki8 hown hK hP 0 rfl rfl 42 (by decide) kf305 (fun _ h9 => h9) rfl dX8_readAsk_52 ?_
      obtain ⟨q55, e55, h⟩ := g_b h
      refine callVvs (cc := cX8_readAsk) (w1 := zzM ad cy (us q24.2.1 [(40, q55.1)]) (us q24.2.2 [(15, q55.2.1), (16, q55.2.2.1), (17, q55.2.2.2), (21, (upd ((q24.2.2 21)) (((12 : Int32) + (q24.2.1 42))).toNatClampNeg q24.1))])) (As := [.int ((2 : Int32)), .int q24.1, .int ((q24.2.1 42))]) (rest := []) ⟨hx, hb, hml, hown, hts⟩ (c_M_say l dC dI cy ad H.size ((2 : Int32)) q24.1 ((q24.2.1 42)) q24.2.1 ((us q24.2.2 [(21, (upd ((q24.2.2 21)) (((12 : Int32) + (q24.2.1 42))).toNatClampNeg q24.1))])) q55 e55) (cwV 3 hts (goodV m_ml_X8_301 m_im_X8_say m_se_X8_say m_in_X8 m_cd_X8_say) rfl rfl rfl (by decide +kernel) ⟨Nat.le_of_ble_eq_true rfl, Nat.le_of_ble_eq_true rfl⟩) hN hK hP hD hS hA rfl 0 rfl rfl rfl hl.1 rfl (Nat.le_of_ble_eq_true rfl) dX8_readAsk_55 ⟨Nat.zero_le _, Nat.zero_le _⟩ (fun H locs hP hD hS => ?_)
      refine lv_aload_n hx hb dX8_readAsk_58 rfl (lv_at hl 1 rfl) ?_
      refine lv_dup hx hb dX8_readAsk_59 rfl ?_
      refine va_get (D := (dC, dI)) (ci := 8) (v := .int ((q24.2.1 42))) (C := RX8) (T := TX8) (N := 78) hx hb hts ki8 hown hK hP 0 rfl rfl 42 (by decide) kf305 (fun _ h9 => h9) rfl dX8_readAsk_60 ?_
      refine lv_iconst (v := 1) hx hb dX8_readAsk_63 (by decide) ?_
      refine lv_iadd hx hb dX8_readAsk_64 ?_
      refine va_put (D := (dC, dI)) (ci := 8) (v := .int (((q24.2.1 42) + (1 : Int32)))) (ty := .int) (C := RX8) (T := TX8) (N := 78) hx hb hts ki8 tyX8 tyX8_ok nmX8 hown hK hP hD hS 0 rfl rfl 42 (by decide) kf305 (fun _ h9 => h9) rfl (by decide +kernel) rfl rfl (Nat.le_of_ble_eq_true rfl) dX8_readAsk_65 (fun H locs hP hD hS => ?_)
      have hP : va_P (dC, dI) vwCl (zzM ad cy (us q24.2.1 [(40, q55.1), (42, ((q24.2.1 42) + (1 : Int32)))]) (us q24.2.2 [(15, q55.2.1), (16, q55.2.2.1), (17, q55.2.2.2), (21, (upd ((q24.2.2 21)) (((12 : Int32) + (q24.2.1 42))).toNatClampNeg q24.1))])) H := Eq.mp (congrArg (fun w => va_P (dC, dI) vwCl w H) (stM_iM42 ad cy q24.2.1 (us q24.2.2 [(15, q55.2.1), (16, q55.2.2.1), (17, q55.2.2.2), (21, (upd ((q24.2.2 21)) (((12 : Int32) + (q24.2.1 42))).toNatClampNeg q24.1))]) [(40, q55.1)] (((q24.2.1 42) + (1 : Int32))))) hP
      have hD : va_D A (zzM ad cy (us q24.2.1 [(40, q55.1), (42, ((q24.2.1 42) + (1 : Int32)))]) (us q24.2.2 [(15, q55.2.1), (16, q55.2.2.1), (17, q55.2.2.2), (21, (upd ((q24.2.2 21)) (((12 : Int32) + (q24.2.1 42))).toNatClampNeg q24.1))])) := Eq.mp (congrArg (fun w => va_D A w) (stM_iM42 ad cy q24.2.1 (us q24.2.2 [(15, q55.2.1), (16, q55.2.2.1), (17, q55.2.2.2), (21, (upd ((q24.2.2 21)) (((12 : Int32) + (q24.2.1 42))).toNatClampNeg q24.1))]) [(40, q55.1)] (((q24.2.1 42) + (1 : Int32))))) hD
      have h' := Option.some.inj h
      rw [← hQQ]
      exact W.vret hx hb hr (fun t ht hW => ⟨⟨(), rfl, trivial, by rw [← hWQ, ← h', ht]; exact hP, va_K.moved hW.alike hK⟩, hS.F ht⟩) hS.2.2 dX8_readAsk_68
  · have h := g_t h cz
    refine lv_aload_n hx hb dX8_readAsk_9 rfl (lv_at hl 0 rfl) ?_
    refine lv_iconst (v := 3) hx hb dX8_readAsk_10 (by decide) ?_
    refine lv_aload_n hx hb dX8_readAsk_11 rfl (lv_at hl 0 rfl) ?_
    refine va_get (D := (dC, dI)) (ci := 8) (v := .int ((iM 4))) (C := RX8) (T := TX8) (N := 78) hx hb hts ki8 hown hK hP 0 rfl rfl 4 (by decide) kf169 (fun _ h9 => h9) rfl dX8_readAsk_12 ?_
    obtain ⟨q15, e15, h⟩ := g_b h
    refine callVvs (cc := cX8_readAsk) (w1 := zzM ad cy (us iM [(46, q15.1), (47, q15.2)]) aM) (As := [.int ((3 : Int32)), .int ((iM 4))]) (rest := []) ⟨hx, hb, hml, hown, hts⟩ (c_M_wrong l dC dI cy ad H.size ((3 : Int32)) ((iM 4)) iM aM q15 e15) (cwV 2 hts (goodV m_ml_X8_194 m_im_X8_wrong m_se_X8_wrong m_in_X8 m_cd_X8_wrong) rfl rfl rfl (by decide +kernel) ⟨Nat.le_of_ble_eq_true rfl, Nat.le_of_ble_eq_true rfl⟩) hN hK hP hD hS hA rfl 0 rfl rfl rfl hl.1 rfl (Nat.le_of_ble_eq_true rfl) dX8_readAsk_15 ⟨Nat.zero_le _, Nat.zero_le _⟩ (fun H locs hP hD hS => ?_)
    have h' := Option.some.inj h
    rw [← hQQ]
    exact W.vret hx hb hr (fun t ht hW => ⟨⟨(), rfl, trivial, by rw [← hWQ, ← h', ht]; exact hP, va_K.moved hW.alike hK⟩, hS.F ht⟩) hS.2.2 dX8_readAsk_18
set_option maxHeartbeats 8000000 in
set_option maxRecDepth 100000 in
theorem c_M_readRule (l : Launch) (dC : Nat → ClassId) (dI : Nat → Nat → Nat) (cy : Nat → ClassId) (ad : Nat → Nat) (sz : Nat) (N : Nat) (iM : Nat → Int32) (aM : Nat → Nat → Int32) (q : (Nat → Int32) × (Nat → Nat → Int32)) (h : f_M_readRule N iM aM = some q) : Met l yX8_readRule wsX8_readRule ({ frames := 6, cells := 0, slots := 0, locals := 136 } : Room) (cP (dC, dI) cy [.ref (ad 0)] (zzM ad cy iM aM) sz) (cQv (dC, dI) cy (zzM ad cy q.1 q.2) (va_A (zzM ad cy iM aM) sz)) 0 0 (va_A (zzM ad cy iM aM) sz) := by
  refine Met.ofW (cc := cX8_readRule) (maxL := 5) (ret := none) (by decide) rfl ?_
  intro p e s m args below meth c s₁ B hml hv
  obtain ⟨hav, hsz, hP, hK, hD0, hN⟩ := hv
  have hx := B.exec
  have hb := B.bytes
  have hr := B.returns
  have hts := atoms_spec (ws := wsX8_readRule) B.pre
  have hown : s.vm.findClass RX8 = some m.cls := findClass_of_methodNamed B.named
  have hlocks := B.notSynchronized
  subst hsz
  have hD := hD0.self (sz := s.heap.size)
  generalize hAe : va_A (zzM ad cy iM aM) s.heap.size = A at hD ⊢
  have hA : ∀ q : Nat, s.heap.size ≤ q → A q := fun q h => by rw [← hAe]; exact Or.inr h
  have hS : va_S A s.heap s.heap [] := va_S.rf
  generalize hWQ : (zzM ad cy q.1 q.2) = WQ
  generalize hQQ : MQ below (cQv (dC, dI) cy WQ A) args s 0 0 A = QQ
  have hl := lv_entry ([.ref (ad 0)] : List Value) (n := 5) (Nat.le_of_ble_eq_true rfl)
  have hfr := lg_entry_eq m ([.ref (ad 0)] : List Value) 5
  rw [← hav] at hfr
  rw [hfr]
  clear hfr hav
  generalize (lg_sl ([.ref (ad 0)] : List Value) ++ List.replicate (5 - (lg_sl ([.ref (ad 0)] : List Value)).length) Slot.unset).toArray = ls at hl ⊢
  have hl : lv_has ls 5 [(0, .ref (ad 0))] := hl
  have kf45 := hts _ (List.mem_cons_of_mem _ m_fl_X8_45)
  have ki8 := (fun w h => List.mem_cons_of_mem _ (i_X8 w h) : ∀ w ∈ u_ws RX8 TX8 78, w ∈ wsX8_readRule)
  have kf311 := hts _ (List.mem_cons_of_mem _ m_fl_X8_311)
  have kf295 := hts _ (List.mem_cons_of_mem _ m_fl_X8_295)
  have kf175 := hts _ (List.mem_cons_of_mem _ m_fl_X8_175)
  have kf169 := hts _ (List.mem_cons_of_mem _ m_fl_X8_169)
  have kf178 := hts _ (List.mem_cons_of_mem _ m_fl_X8_178)
  refine (?_ : ∀ (H : Heap) (locs : List Loc), va_P (dC, dI) vwCl (zzM ad cy iM aM) H → va_D A (zzM ad cy iM aM) → va_S A s.heap H locs → W p l e ({ frames := 6, cells := 0, slots := 0, locals := 136 } : Room) s m args below meth c H locs 0 0 QQ (F0 m 0 ls [])) s.heap [] hP hD hS
  clear hP hD hS
  have B120 : ∀ (v2 : Int32) (s0 : Int32) (x_iM : Nat → Int32) (x_aM : Nat → Nat → Int32) (H : Heap) (locs : List Loc) (ls : Array Slot), f_M_readRule_120 N iM aM v2 s0 x_iM x_aM = some q → va_P (dC, dI) vwCl (zzM ad cy x_iM x_aM) H → va_D A (zzM ad cy x_iM x_aM) → va_S A s.heap H locs → lv_has ls 5 [(0, .ref (ad 0)), (2, .int v2)] → W p l e ({ frames := 6, cells := 0, slots := 0, locals := 136 } : Room) s m args below meth c H locs 0 0 QQ (F0 m 120 ls [.int s0]) := by
    intro v2 s0 x_iM x_aM H locs ls h hP hD hS hl
    unfold f_M_readRule_120 at h
    refine lv_istore_n (lv' := [(3, .int s0), (0, .ref (ad 0)), (2, .int v2)]) hx hb dX8_readRule_120 rfl hl (by decide) rfl (fun ls hl => ?_)
    refine lv_aload_n hx hb dX8_readRule_121 rfl (lv_at hl 1 rfl) ?_
    obtain ⟨q122, e122, h⟩ := g_b h
    refine callVvs (cc := cX8_readRule) (w1 := zzM ad cy (us x_iM [(2, q122.1), (3, q122.2.1), (4, q122.2.2.1), (5, q122.2.2.2.1), (6, q122.2.2.2.2)]) x_aM) (As := []) (rest := []) ⟨hx, hb, hml, hown, hts⟩ (c_M_next l dC dI cy ad H.size N x_iM x_aM q122 e122) (cwV 0 hts (goodV m_ml_X8_205 m_im_X8_next m_se_X8_next m_in_X8 m_cd_X8_next) rfl rfl rfl (by decide +kernel) ⟨Nat.le_of_ble_eq_true rfl, Nat.le_of_ble_eq_true rfl⟩) hN hK hP hD hS hA rfl 0 rfl rfl rfl hl.1 rfl (Nat.le_of_ble_eq_true rfl) dX8_readRule_122 ⟨Nat.zero_le _, Nat.zero_le _⟩ (fun H locs hP hD hS => ?_)
    refine lv_aload_n hx hb dX8_readRule_125 rfl (lv_at hl 1 rfl) ?_
    obtain ⟨q126, e126, h⟩ := g_b h
    refine callVis (cc := cX8_readRule) (w1 := zzM ad cy q126.2.1 q126.2.2) (As := []) (rest := []) ⟨hx, hb, hml, hown, hts⟩ (c_M_readConcept l dC dI cy ad H.size N ((us x_iM [(2, q122.1), (3, q122.2.1), (4, q122.2.2.1), (5, q122.2.2.2.1), (6, q122.2.2.2.2)])) x_aM q126 e126) (cwV 0 hts (goodV m_ml_X8_308 m_im_X8_readConcept m_se_X8_readConcept m_in_X8 m_cd_X8_readConcept) rfl rfl rfl (by decide +kernel) ⟨Nat.le_of_ble_eq_true rfl, Nat.le_of_ble_eq_true rfl⟩) hN hK hP hD hS hA rfl 0 rfl rfl rfl hl.1 rfl (Nat.le_of_ble_eq_true rfl) dX8_readRule_126 ⟨Nat.zero_le _, Nat.zero_le _⟩ (fun H locs hP hD hS => ?_)
    refine lv_istore (lv' := [(4, .int q126.1), (3, .int s0), (0, .ref (ad 0)), (2, .int v2)]) hx hb dX8_readRule_129 hl (by decide) rfl (fun ls hl => ?_)
    refine lv_aload_n hx hb dX8_readRule_131 rfl (lv_at hl 2 rfl) ?_
    obtain ⟨q132, e132, h⟩ := g_b h
    refine callVis (cc := cX8_readRule) (w1 := zzM ad cy q126.2.1 q126.2.2) (As := []) (rest := []) ⟨hx, hb, hml, hown, hts⟩ (c_M_fine l dC dI cy ad H.size q126.2.1 q126.2.2 q132 e132) (cwV 0 hts (goodV m_ml_X8_198 m_im_X8_fine m_se_X8_fine m_in_X8 m_cd_X8_fine) rfl rfl rfl (by decide +kernel) ⟨Nat.le_of_ble_eq_true rfl, Nat.le_of_ble_eq_true rfl⟩) hN hK hP hD hS hA rfl 0 rfl rfl rfl hl.1 rfl (Nat.le_of_ble_eq_true rfl) dX8_readRule_132 ⟨Nat.zero_le _, Nat.zero_le _⟩ (fun H locs hP hD hS => ?_)
    refine lv_if_eq (tgt := 172) hx hb dX8_readRule_135 (by decide) (fun cz => ?_) (fun cz => ?_)
    · have h := g_t h cz
      have h' := Option.some.inj h
      rw [← hQQ]
      exact W.vret hx hb hr (fun t ht hW => ⟨⟨(), rfl, trivial, by rw [← hWQ, ← h', ht]; exact hP, va_K.moved hW.alike hK⟩, hS.F ht⟩) hS.2.2 dX8_readRule_172
    · have h := g_f h cz
      refine lv_aload_n hx hb dX8_readRule_138 rfl (lv_at hl 2 rfl) ?_
      refine va_get (D := (dC, dI)) (ci := 8) (v := .ref (ad 12)) (C := RX8) (T := TX8) (N := 78) hx hb hts ki8 hown hK hP 0 rfl rfl 19 (by decide) kf45 (fun _ h9 => h9) rfl dX8_readRule_139 ?_
      refine lv_bipush (v := 12) hx hb dX8_readRule_142 (by decide) ?_
      refine lv_aload_n hx hb dX8_readRule_144 rfl (lv_at hl 2 rfl) ?_
      refine va_get (D := (dC, dI)) (ci := 8) (v := .int ((q126.2.1 41))) (C := RX8) (T := TX8) (N := 78) hx hb hts ki8 hown hK hP 0 rfl rfl 41 (by decide) kf311 (fun _ h9 => h9) rfl dX8_readRule_145 ?_
      refine lv_iadd hx hb dX8_readRule_148 ?_
      refine lv_aload_n hx hb dX8_readRule_149 rfl (lv_at hl 2 rfl) ?_
      refine va_get (D := (dC, dI)) (ci := 8) (v := .int ((q126.2.1 40))) (C := RX8) (T := TX8) (N := 78) hx hb hts ki8 hown hK hP 0 rfl rfl 40 (by decide) kf295 (fun _ h9 => h9) rfl dX8_readRule_150 ?_
      obtain ⟨g_94, h⟩ := g_n h
      refine va_iast (f := (q126.2.2 19)) hx hb hK hP hD hS 12 0 rfl rfl g_94 dX8_readRule_153 (fun H locs hP hD hS => ?_)
      have hP : va_P (dC, dI) vwCl (zzM ad cy q126.2.1 (us q126.2.2 [(19, (upd ((q126.2.2 19)) (((12 : Int32) + (q126.2.1 41))).toNatClampNeg ((q126.2.1 40))))])) H := Eq.mp (congrArg (fun w => va_P (dC, dI) vwCl w H) (sfM_aM19 ad cy q126.2.1 q126.2.2 ((upd ((q126.2.2 19)) (((12 : Int32) + (q126.2.1 41))).toNatClampNeg ((q126.2.1 40)))))) hP
      have hD : va_D A (zzM ad cy q126.2.1 (us q126.2.2 [(19, (upd ((q126.2.2 19)) (((12 : Int32) + (q126.2.1 41))).toNatClampNeg ((q126.2.1 40))))])) := Eq.mp (congrArg (fun w => va_D A w) (sfM_aM19 ad cy q126.2.1 q126.2.2 ((upd ((q126.2.2 19)) (((12 : Int32) + (q126.2.1 41))).toNatClampNeg ((q126.2.1 40)))))) hD
      refine lv_aload_n hx hb dX8_readRule_154 rfl (lv_at hl 2 rfl) ?_
      refine lv_iload_n hx hb dX8_readRule_155 rfl (lv_at hl 1 rfl) ?_
      refine lv_iload_n hx hb dX8_readRule_156 rfl (lv_at hl 3 rfl) ?_
      refine lv_iload hx hb dX8_readRule_157 (lv_at hl 0 rfl) ?_
      obtain ⟨q159, e159, h⟩ := g_b h
      refine callVvs (cc := cX8_readRule) (w1 := zzM ad cy (us q126.2.1 [(40, q159.1)]) (us q126.2.2 [(15, q159.2.1), (16, q159.2.2.1), (17, q159.2.2.2), (19, (upd ((q126.2.2 19)) (((12 : Int32) + (q126.2.1 41))).toNatClampNeg ((q126.2.1 40))))])) (As := [.int s0, .int v2, .int q126.1]) (rest := []) ⟨hx, hb, hml, hown, hts⟩ (c_M_say l dC dI cy ad H.size s0 v2 q126.1 q126.2.1 ((us q126.2.2 [(19, (upd ((q126.2.2 19)) (((12 : Int32) + (q126.2.1 41))).toNatClampNeg ((q126.2.1 40))))])) q159 e159) (cwV 3 hts (goodV m_ml_X8_301 m_im_X8_say m_se_X8_say m_in_X8 m_cd_X8_say) rfl rfl rfl (by decide +kernel) ⟨Nat.le_of_ble_eq_true rfl, Nat.le_of_ble_eq_true rfl⟩) hN hK hP hD hS hA rfl 0 rfl rfl rfl hl.1 rfl (Nat.le_of_ble_eq_true rfl) dX8_readRule_159 ⟨Nat.zero_le _, Nat.zero_le _⟩ (fun H locs hP hD hS => ?_)
      refine lv_aload_n hx hb dX8_readRule_162 rfl (lv_at hl 2 rfl) ?_
      refine lv_dup hx hb dX8_readRule_163 rfl ?_
      refine va_get (D := (dC, dI)) (ci := 8) (v := .int ((q126.2.1 41))) (C := RX8) (T := TX8) (N := 78) hx hb hts ki8 hown hK hP 0 rfl rfl 41 (by decide) kf311 (fun _ h9 => h9) rfl dX8_readRule_164 ?_
      refine lv_iconst (v := 1) hx hb dX8_readRule_167 (by decide) ?_
      refine lv_iadd hx hb dX8_readRule_168 ?_
      refine va_put (D := (dC, dI)) (ci := 8) (v := .int (((q126.2.1 41) + (1 : Int32)))) (ty := .int) (C := RX8) (T := TX8) (N := 78) hx hb hts ki8 tyX8 tyX8_ok nmX8 hown hK hP hD hS 0 rfl rfl 41 (by decide) kf311 (fun _ h9 => h9) rfl (by decide +kernel) rfl rfl (Nat.le_of_ble_eq_true rfl) dX8_readRule_169 (fun H locs hP hD hS => ?_)
      have hP : va_P (dC, dI) vwCl (zzM ad cy (us q126.2.1 [(40, q159.1), (41, ((q126.2.1 41) + (1 : Int32)))]) (us q126.2.2 [(15, q159.2.1), (16, q159.2.2.1), (17, q159.2.2.2), (19, (upd ((q126.2.2 19)) (((12 : Int32) + (q126.2.1 41))).toNatClampNeg ((q126.2.1 40))))])) H := Eq.mp (congrArg (fun w => va_P (dC, dI) vwCl w H) (stM_iM41 ad cy q126.2.1 (us q126.2.2 [(15, q159.2.1), (16, q159.2.2.1), (17, q159.2.2.2), (19, (upd ((q126.2.2 19)) (((12 : Int32) + (q126.2.1 41))).toNatClampNeg ((q126.2.1 40))))]) [(40, q159.1)] (((q126.2.1 41) + (1 : Int32))))) hP
      have hD : va_D A (zzM ad cy (us q126.2.1 [(40, q159.1), (41, ((q126.2.1 41) + (1 : Int32)))]) (us q126.2.2 [(15, q159.2.1), (16, q159.2.2.1), (17, q159.2.2.2), (19, (upd ((q126.2.2 19)) (((12 : Int32) + (q126.2.1 41))).toNatClampNeg ((q126.2.1 40))))])) := Eq.mp (congrArg (fun w => va_D A w) (stM_iM41 ad cy q126.2.1 (us q126.2.2 [(15, q159.2.1), (16, q159.2.2.1), (17, q159.2.2.2), (19, (upd ((q126.2.2 19)) (((12 : Int32) + (q126.2.1 41))).toNatClampNeg ((q126.2.1 40))))]) [(40, q159.1)] (((q126.2.1 41) + (1 : Int32))))) hD
      have h' := Option.some.inj h
      rw [← hQQ]
      exact W.vret hx hb hr (fun t ht hW => ⟨⟨(), rfl, trivial, by rw [← hWQ, ← h', ht]; exact hP, va_K.moved hW.alike hK⟩, hS.F ht⟩) hS.2.2 dX8_readRule_172
  have B98 : ∀ (v2 : Int32) (x_iM : Nat → Int32) (x_aM : Nat → Nat → Int32) (H : Heap) (locs : List Loc) (ls : Array Slot), f_M_readRule_98 N iM aM v2 x_iM x_aM = some q → va_P (dC, dI) vwCl (zzM ad cy x_iM x_aM) H → va_D A (zzM ad cy x_iM x_aM) → va_S A s.heap H locs → lv_has ls 5 [(0, .ref (ad 0)), (2, .int v2)] → W p l e ({ frames := 6, cells := 0, slots := 0, locals := 136 } : Room) s m args below meth c H locs 0 0 QQ (F0 m 98 ls []) := by
    intro v2 x_iM x_aM H locs ls h hP hD hS hl
    unfold f_M_readRule_98 at h
    refine lv_aload_n hx hb dX8_readRule_98 rfl (lv_at hl 0 rfl) ?_
    obtain ⟨q99, e99, h⟩ := g_b h
    refine callVis (cc := cX8_readRule) (w1 := zzM ad cy x_iM x_aM) (As := []) (rest := []) ⟨hx, hb, hml, hown, hts⟩ (c_M_fine l dC dI cy ad H.size x_iM x_aM q99 e99) (cwV 0 hts (goodV m_ml_X8_198 m_im_X8_fine m_se_X8_fine m_in_X8 m_cd_X8_fine) rfl rfl rfl (by decide +kernel) ⟨Nat.le_of_ble_eq_true rfl, Nat.le_of_ble_eq_true rfl⟩) hN hK hP hD hS hA rfl 0 rfl rfl rfl hl.1 rfl (Nat.le_of_ble_eq_true rfl) dX8_readRule_99 ⟨Nat.zero_le _, Nat.zero_le _⟩ (fun H locs hP hD hS => ?_)
    refine lv_if_ne (tgt := 106) hx hb dX8_readRule_102 (by decide) (fun cz => ?_) (fun cz => ?_)
    · have h := g_f h cz
      refine lv_aload_n hx hb dX8_readRule_106 rfl (lv_at hl 0 rfl) ?_
      refine va_get (D := (dC, dI)) (ci := 8) (v := .int ((x_iM 6))) (C := RX8) (T := TX8) (N := 78) hx hb hts ki8 hown hK hP 0 rfl rfl 6 (by decide) kf175 (fun _ h9 => h9) rfl dX8_readRule_107 ?_
      refine lv_bipush (v := 60) hx hb dX8_readRule_110 (by decide) ?_
      refine lv_icmp_ne (tgt := 119) hx hb dX8_readRule_112 (by decide) (fun cz => ?_) (fun cz => ?_)
      · have h := g_f h cz
        refine lv_iconst (v := 1) hx hb dX8_readRule_119 (by decide) ?_
        exact B120 v2 ((1 : Int32)) x_iM x_aM H locs ls h hP hD hS (lv_sub hl [0, 1] rfl)
      · have h := g_t h cz
        refine lv_iconst (v := 0) hx hb dX8_readRule_115 (by decide) ?_
        refine lv_goto (tgt := 120) hx hb dX8_readRule_116 (by decide) ?_
        exact B120 v2 ((0 : Int32)) x_iM x_aM H locs ls h hP hD hS (lv_sub hl [0, 1] rfl)
    · have h := g_t h cz
      have h' := Option.some.inj h
      rw [← hQQ]
      exact W.vret hx hb hr (fun t ht hW => ⟨⟨(), rfl, trivial, by rw [← hWQ, ← h', ht]; exact hP, va_K.moved hW.alike hK⟩, hS.F ht⟩) hS.2.2 dX8_readRule_105
  have B56 : ∀ (x_iM : Nat → Int32) (H : Heap) (locs : List Loc) (ls : Array Slot), f_M_readRule_56 N iM aM x_iM = some q → va_P (dC, dI) vwCl (zzM ad cy x_iM aM) H → va_D A (zzM ad cy x_iM aM) → va_S A s.heap H locs → lv_has ls 5 [(0, .ref (ad 0))] → W p l e ({ frames := 6, cells := 0, slots := 0, locals := 136 } : Room) s m args below meth c H locs 0 0 QQ (F0 m 56 ls []) := by
    intro x_iM H locs ls h hP hD hS hl
    unfold f_M_readRule_56 at h
    refine lv_aload_n hx hb dX8_readRule_56 rfl (lv_at hl 0 rfl) ?_
    obtain ⟨q57, e57, h⟩ := g_b h
    refine callVis (cc := cX8_readRule) (w1 := zzM ad cy x_iM aM) (As := []) (rest := []) ⟨hx, hb, hml, hown, hts⟩ (c_M_fine l dC dI cy ad H.size x_iM aM q57 e57) (cwV 0 hts (goodV m_ml_X8_198 m_im_X8_fine m_se_X8_fine m_in_X8 m_cd_X8_fine) rfl rfl rfl (by decide +kernel) ⟨Nat.le_of_ble_eq_true rfl, Nat.le_of_ble_eq_true rfl⟩) hN hK hP hD hS hA rfl 0 rfl rfl rfl hl.1 rfl (Nat.le_of_ble_eq_true rfl) dX8_readRule_57 ⟨Nat.zero_le _, Nat.zero_le _⟩ (fun H locs hP hD hS => ?_)
    refine lv_if_ne (tgt := 64) hx hb dX8_readRule_60 (by decide) (fun cz => ?_) (fun cz => ?_)
    · have h := g_f h cz
      refine lv_aload_n hx hb dX8_readRule_64 rfl (lv_at hl 0 rfl) ?_
      obtain ⟨q65, e65, h⟩ := g_b h
      refine callVis (cc := cX8_readRule) (w1 := zzM ad cy q65.2.1 q65.2.2) (As := []) (rest := []) ⟨hx, hb, hml, hown, hts⟩ (c_M_readConcept l dC dI cy ad H.size N x_iM aM q65 e65) (cwV 0 hts (goodV m_ml_X8_308 m_im_X8_readConcept m_se_X8_readConcept m_in_X8 m_cd_X8_readConcept) rfl rfl rfl (by decide +kernel) ⟨Nat.le_of_ble_eq_true rfl, Nat.le_of_ble_eq_true rfl⟩) hN hK hP hD hS hA rfl 0 rfl rfl rfl hl.1 rfl (Nat.le_of_ble_eq_true rfl) dX8_readRule_65 ⟨Nat.zero_le _, Nat.zero_le _⟩ (fun H locs hP hD hS => ?_)
      refine lv_istore_n (lv' := [(2, .int q65.1), (0, .ref (ad 0))]) hx hb dX8_readRule_68 rfl hl (by decide) rfl (fun ls hl => ?_)
      refine lv_aload_n hx hb dX8_readRule_69 rfl (lv_at hl 1 rfl) ?_
      obtain ⟨q70, e70, h⟩ := g_b h
      refine callVis (cc := cX8_readRule) (w1 := zzM ad cy q65.2.1 q65.2.2) (As := []) (rest := []) ⟨hx, hb, hml, hown, hts⟩ (c_M_fine l dC dI cy ad H.size q65.2.1 q65.2.2 q70 e70) (cwV 0 hts (goodV m_ml_X8_198 m_im_X8_fine m_se_X8_fine m_in_X8 m_cd_X8_fine) rfl rfl rfl (by decide +kernel) ⟨Nat.le_of_ble_eq_true rfl, Nat.le_of_ble_eq_true rfl⟩) hN hK hP hD hS hA rfl 0 rfl rfl rfl hl.1 rfl (Nat.le_of_ble_eq_true rfl) dX8_readRule_70 ⟨Nat.zero_le _, Nat.zero_le _⟩ (fun H locs hP hD hS => ?_)
      refine lv_if_eq (tgt := 98) hx hb dX8_readRule_73 (by decide) (fun cz => ?_) (fun cz => ?_)
      · have h := g_t h cz
        exact B98 q65.1 q65.2.1 q65.2.2 H locs ls h hP hD hS (lv_sub hl [1, 0] rfl)
      · have h := g_f h cz
        refine lv_aload_n hx hb dX8_readRule_76 rfl (lv_at hl 1 rfl) ?_
        refine lv_bipush (v := 60) hx hb dX8_readRule_77 (by decide) ?_
        obtain ⟨q79, e79, h⟩ := g_b h
        refine callVis (cc := cX8_readRule) (w1 := zzM ad cy q65.2.1 q65.2.2) (As := [.int ((60 : Int32))]) (rest := []) ⟨hx, hb, hml, hown, hts⟩ (c_M_isSignHere l dC dI cy ad H.size ((60 : Int32)) q65.2.1 q65.2.2 q79 e79) (cwV 1 hts (goodV m_ml_X8_202 m_im_X8_isSignHere m_se_X8_isSignHere m_in_X8 m_cd_X8_isSignHere) rfl rfl rfl (by decide +kernel) ⟨Nat.le_of_ble_eq_true rfl, Nat.le_of_ble_eq_true rfl⟩) hN hK hP hD hS hA rfl 0 rfl rfl rfl hl.1 rfl (Nat.le_of_ble_eq_true rfl) dX8_readRule_79 ⟨Nat.zero_le _, Nat.zero_le _⟩ (fun H locs hP hD hS => ?_)
        refine lv_if_ne (tgt := 98) hx hb dX8_readRule_82 (by decide) (fun cz => ?_) (fun cz => ?_)
        · have h := g_f h cz
          exact B98 q65.1 q65.2.1 q65.2.2 H locs ls h hP hD hS (lv_sub hl [1, 0] rfl)
        · have h := g_t h cz
          refine lv_aload_n hx hb dX8_readRule_85 rfl (lv_at hl 1 rfl) ?_
          refine lv_bipush (v := 61) hx hb dX8_readRule_86 (by decide) ?_
          obtain ⟨q88, e88, h⟩ := g_b h
          refine callVis (cc := cX8_readRule) (w1 := zzM ad cy q65.2.1 q65.2.2) (As := [.int ((61 : Int32))]) (rest := []) ⟨hx, hb, hml, hown, hts⟩ (c_M_isSignHere l dC dI cy ad H.size ((61 : Int32)) q65.2.1 q65.2.2 q88 e88) (cwV 1 hts (goodV m_ml_X8_202 m_im_X8_isSignHere m_se_X8_isSignHere m_in_X8 m_cd_X8_isSignHere) rfl rfl rfl (by decide +kernel) ⟨Nat.le_of_ble_eq_true rfl, Nat.le_of_ble_eq_true rfl⟩) hN hK hP hD hS hA rfl 0 rfl rfl rfl hl.1 rfl (Nat.le_of_ble_eq_true rfl) dX8_readRule_88 ⟨Nat.zero_le _, Nat.zero_le _⟩ (fun H locs hP hD hS => ?_)
          refine lv_if_ne (tgt := 98) hx hb dX8_readRule_91 (by decide) (fun cz => ?_) (fun cz => ?_)
          · have h := g_f h cz
            exact B98 q65.1 q65.2.1 q65.2.2 H locs ls h hP hD hS (lv_sub hl [1, 0] rfl)
          · have h := g_t h cz
            refine lv_aload_n hx hb dX8_readRule_94 rfl (lv_at hl 1 rfl) ?_
            obtain ⟨q95, e95, h⟩ := g_b h
            refine callVvs (cc := cX8_readRule) (w1 := zzM ad cy (us q65.2.1 [(46, q95.1), (47, q95.2)]) q65.2.2) (As := []) (rest := []) ⟨hx, hb, hml, hown, hts⟩ (c_M_misplaced l dC dI cy ad H.size q65.2.1 q65.2.2 q95 e95) (cwV 0 hts (goodV m_ml_X8_208 m_im_X8_misplaced m_se_X8_misplaced m_in_X8 m_cd_X8_misplaced) rfl rfl rfl (by decide +kernel) ⟨Nat.le_of_ble_eq_true rfl, Nat.le_of_ble_eq_true rfl⟩) hN hK hP hD hS hA rfl 0 rfl rfl rfl hl.1 rfl (Nat.le_of_ble_eq_true rfl) dX8_readRule_95 ⟨Nat.zero_le _, Nat.zero_le _⟩ (fun H locs hP hD hS => ?_)
            exact B98 q65.1 ((us q65.2.1 [(46, q95.1), (47, q95.2)])) q65.2.2 H locs ls h hP hD hS (lv_sub hl [1, 0] rfl)
    · have h := g_t h cz
      have h' := Option.some.inj h
      rw [← hQQ]
      exact W.vret hx hb hr (fun t ht hW => ⟨⟨(), rfl, trivial, by rw [← hWQ, ← h', ht]; exact hP, va_K.moved hW.alike hK⟩, hS.F ht⟩) hS.2.2 dX8_readRule_63
  have B38 : ∀  (H : Heap) (locs : List Loc) (ls : Array Slot), f_M_readRule_38 N iM aM = some q → va_P (dC, dI) vwCl (zzM ad cy iM aM) H → va_D A (zzM ad cy iM aM) → va_S A s.heap H locs → lv_has ls 5 [(0, .ref (ad 0))] → W p l e ({ frames := 6, cells := 0, slots := 0, locals := 136 } : Room) s m args below meth c H locs 0 0 QQ (F0 m 38 ls []) := by
    intro H locs ls h hP hD hS hl
    unfold f_M_readRule_38 at h
    refine lv_aload_n hx hb dX8_readRule_38 rfl (lv_at hl 0 rfl) ?_
    refine va_get (D := (dC, dI)) (ci := 8) (v := .int ((iM 41))) (C := RX8) (T := TX8) (N := 78) hx hb hts ki8 hown hK hP 0 rfl rfl 41 (by decide) kf311 (fun _ h9 => h9) rfl dX8_readRule_39 ?_
    refine lv_bipush (v := 12) hx hb dX8_readRule_42 (by decide) ?_
    refine lv_icmp_ne (tgt := 56) hx hb dX8_readRule_44 (by decide) (fun cz => ?_) (fun cz => ?_)
    · have h := g_f h cz
      exact B56 iM H locs ls h hP hD hS (lv_sub hl [0] rfl)
    · have h := g_t h cz
      refine lv_aload_n hx hb dX8_readRule_47 rfl (lv_at hl 0 rfl) ?_
      refine lv_iconst (v := 3) hx hb dX8_readRule_48 (by decide) ?_
      refine lv_aload_n hx hb dX8_readRule_49 rfl (lv_at hl 0 rfl) ?_
      refine va_get (D := (dC, dI)) (ci := 8) (v := .int ((iM 4))) (C := RX8) (T := TX8) (N := 78) hx hb hts ki8 hown hK hP 0 rfl rfl 4 (by decide) kf169 (fun _ h9 => h9) rfl dX8_readRule_50 ?_
      obtain ⟨q53, e53, h⟩ := g_b h
      refine callVvs (cc := cX8_readRule) (w1 := zzM ad cy (us iM [(46, q53.1), (47, q53.2)]) aM) (As := [.int ((3 : Int32)), .int ((iM 4))]) (rest := []) ⟨hx, hb, hml, hown, hts⟩ (c_M_wrong l dC dI cy ad H.size ((3 : Int32)) ((iM 4)) iM aM q53 e53) (cwV 2 hts (goodV m_ml_X8_194 m_im_X8_wrong m_se_X8_wrong m_in_X8 m_cd_X8_wrong) rfl rfl rfl (by decide +kernel) ⟨Nat.le_of_ble_eq_true rfl, Nat.le_of_ble_eq_true rfl⟩) hN hK hP hD hS hA rfl 0 rfl rfl rfl hl.1 rfl (Nat.le_of_ble_eq_true rfl) dX8_readRule_53 ⟨Nat.zero_le _, Nat.zero_le _⟩ (fun H locs hP hD hS => ?_)
      exact B56 ((us iM [(46, q53.1), (47, q53.2)])) H locs ls h hP hD hS (lv_sub hl [0] rfl)
  have B31 : ∀  (H : Heap) (locs : List Loc) (ls : Array Slot), f_M_readRule_31 N iM aM = some q → va_P (dC, dI) vwCl (zzM ad cy iM aM) H → va_D A (zzM ad cy iM aM) → va_S A s.heap H locs → lv_has ls 5 [(0, .ref (ad 0))] → W p l e ({ frames := 6, cells := 0, slots := 0, locals := 136 } : Room) s m args below meth c H locs 0 0 QQ (F0 m 31 ls []) := by
    intro H locs ls h hP hD hS hl
    unfold f_M_readRule_31 at h
    refine lv_aload_n hx hb dX8_readRule_31 rfl (lv_at hl 0 rfl) ?_
    obtain ⟨q32, e32, h⟩ := g_b h
    refine callVvs (cc := cX8_readRule) (w1 := zzM ad cy (us iM [(46, q32.1), (47, q32.2)]) aM) (As := []) (rest := []) ⟨hx, hb, hml, hown, hts⟩ (c_M_misplaced l dC dI cy ad H.size iM aM q32 e32) (cwV 0 hts (goodV m_ml_X8_208 m_im_X8_misplaced m_se_X8_misplaced m_in_X8 m_cd_X8_misplaced) rfl rfl rfl (by decide +kernel) ⟨Nat.le_of_ble_eq_true rfl, Nat.le_of_ble_eq_true rfl⟩) hN hK hP hD hS hA rfl 0 rfl rfl rfl hl.1 rfl (Nat.le_of_ble_eq_true rfl) dX8_readRule_32 ⟨Nat.zero_le _, Nat.zero_le _⟩ (fun H locs hP hD hS => ?_)
    refine lv_goto (tgt := 56) hx hb dX8_readRule_35 (by decide) ?_
    exact B56 ((us iM [(46, q32.1), (47, q32.2)])) H locs ls h hP hD hS (lv_sub hl [0] rfl)
  intro H locs hP hD hS
  unfold f_M_readRule at h
  refine lv_aload_n hx hb dX8_readRule_0 rfl (lv_at hl 0 rfl) ?_
  obtain ⟨q1, e1, h⟩ := g_b h
  refine callVis (cc := cX8_readRule) (w1 := zzM ad cy iM aM) (As := []) (rest := []) ⟨hx, hb, hml, hown, hts⟩ (c_M_kept l dC dI cy ad H.size N iM aM q1 e1) (cwV 0 hts (goodV m_ml_X8_224 m_im_X8_kept m_se_X8_kept m_in_X8 m_cd_X8_kept) rfl rfl rfl (by decide +kernel) ⟨Nat.le_of_ble_eq_true rfl, Nat.le_of_ble_eq_true rfl⟩) hN hK hP hD hS hA rfl 0 rfl rfl rfl hl.1 rfl (Nat.le_of_ble_eq_true rfl) dX8_readRule_1 ⟨Nat.zero_le _, Nat.zero_le _⟩ (fun H locs hP hD hS => ?_)
  refine lv_istore_n (lv' := [(1, .int q1), (0, .ref (ad 0))]) hx hb dX8_readRule_4 rfl hl (by decide) rfl (fun ls hl => ?_)
  refine lv_aload_n hx hb dX8_readRule_5 rfl (lv_at hl 1 rfl) ?_
  refine lv_bipush (v := 40) hx hb dX8_readRule_6 (by decide) ?_
  obtain ⟨q8, e8, h⟩ := g_b h
  refine callVis (cc := cX8_readRule) (w1 := zzM ad cy iM aM) (As := [.int ((40 : Int32))]) (rest := []) ⟨hx, hb, hml, hown, hts⟩ (c_M_isSignHere l dC dI cy ad H.size ((40 : Int32)) iM aM q8 e8) (cwV 1 hts (goodV m_ml_X8_202 m_im_X8_isSignHere m_se_X8_isSignHere m_in_X8 m_cd_X8_isSignHere) rfl rfl rfl (by decide +kernel) ⟨Nat.le_of_ble_eq_true rfl, Nat.le_of_ble_eq_true rfl⟩) hN hK hP hD hS hA rfl 0 rfl rfl rfl hl.1 rfl (Nat.le_of_ble_eq_true rfl) dX8_readRule_8 ⟨Nat.zero_le _, Nat.zero_le _⟩ (fun H locs hP hD hS => ?_)
  refine lv_if_ne (tgt := 38) hx hb dX8_readRule_11 (by decide) (fun cz => ?_) (fun cz => ?_)
  · have h := g_f h cz
    exact B38 H locs ls h hP hD hS (lv_sub hl [1] rfl)
  · have h := g_t h cz
    refine lv_aload_n hx hb dX8_readRule_14 rfl (lv_at hl 1 rfl) ?_
    refine va_get (D := (dC, dI)) (ci := 8) (v := .int ((iM 3))) (C := RX8) (T := TX8) (N := 78) hx hb hts ki8 hown hK hP 0 rfl rfl 3 (by decide) kf178 (fun _ h9 => h9) rfl dX8_readRule_15 ?_
    refine lv_iconst (v := 1) hx hb dX8_readRule_18 (by decide) ?_
    refine lv_icmp_ne (tgt := 31) hx hb dX8_readRule_19 (by decide) (fun cz => ?_) (fun cz => ?_)
    · have h := g_f h cz
      exact B31 H locs ls h hP hD hS (lv_sub hl [1] rfl)
    · have h := g_t h cz
      refine lv_iload_n hx hb dX8_readRule_22 rfl (lv_at hl 0 rfl) ?_
      refine lv_if_lt (tgt := 38) hx hb dX8_readRule_23 (by decide) (fun cz => ?_) (fun cz => ?_)
      · have h := g_t h cz
        exact B38 H locs ls h hP hD hS (lv_sub hl [1] rfl)
      · have h := g_f h cz
        refine lv_iload_n hx hb dX8_readRule_26 rfl (lv_at hl 0 rfl) ?_
        refine lv_iconst (v := 5) hx hb dX8_readRule_27 (by decide) ?_
        refine lv_icmp_ge (tgt := 38) hx hb dX8_readRule_28 (by decide) (fun cz => ?_) (fun cz => ?_)
        · have h := g_t h cz
          exact B38 H locs ls h hP hD hS (lv_sub hl [1] rfl)
        · have h := g_f h cz
          exact B31 H locs ls h hP hD hS (lv_sub hl [1] rfl)
set_option maxHeartbeats 8000000 in
set_option maxRecDepth 100000 in
theorem c_M_types (l : Launch) (dC : Nat → ClassId) (dI : Nat → Nat → Nat) (cy : Nat → ClassId) (ad : Nat → Nat) (sz : Nat) (iM : Nat → Int32) (aM : Nat → Nat → Int32) (q : Int32) (h : f_M_types (iM 36) = some q) : Met l yX8_types wsX8_types ({ frames := 0, cells := 0, slots := 0, locals := 0 } : Room) (cP (dC, dI) cy [.ref (ad 0)] (zzM ad cy iM aM) sz) (cQi (dC, dI) cy q (zzM ad cy iM aM) (va_A (zzM ad cy iM aM) sz)) 0 0 (va_A (zzM ad cy iM aM) sz) := by
  refine Met.ofW (cc := cX8_types) (maxL := 1) (ret := (some .int)) (by decide) rfl ?_
  intro p e s m args below meth c s₁ B hml hv
  obtain ⟨hav, hsz, hP, hK, hD0, hN⟩ := hv
  have hx := B.exec
  have hb := B.bytes
  have hr := B.returns
  have hts := atoms_spec (ws := wsX8_types) B.pre
  have hown : s.vm.findClass RX8 = some m.cls := findClass_of_methodNamed B.named
  have hlocks := B.notSynchronized
  subst hsz
  have hD := hD0.self (sz := s.heap.size)
  generalize hAe : va_A (zzM ad cy iM aM) s.heap.size = A at hD ⊢
  have hA : ∀ q : Nat, s.heap.size ≤ q → A q := fun q h => by rw [← hAe]; exact Or.inr h
  have hS : va_S A s.heap s.heap [] := va_S.rf
  generalize hWQ : (zzM ad cy iM aM) = WQ
  generalize hQQ : MQ below (cQi (dC, dI) cy q WQ A) args s 0 0 A = QQ
  have hl := lv_entry ([.ref (ad 0)] : List Value) (n := 1) (Nat.le_of_ble_eq_true rfl)
  have hfr := lg_entry_eq m ([.ref (ad 0)] : List Value) 1
  rw [← hav] at hfr
  rw [hfr]
  clear hfr hav
  generalize (lg_sl ([.ref (ad 0)] : List Value) ++ List.replicate (1 - (lg_sl ([.ref (ad 0)] : List Value)).length) Slot.unset).toArray = ls at hl ⊢
  have hl : lv_has ls 1 [(0, .ref (ad 0))] := hl
  have kf353 := hts _ (List.mem_cons_of_mem _ m_fl_X8_353)
  have ki8 := (fun w h => List.mem_cons_of_mem _ (i_X8 w h) : ∀ w ∈ u_ws RX8 TX8 78, w ∈ wsX8_types)
  refine (?_ : ∀ (H : Heap) (locs : List Loc), va_P (dC, dI) vwCl (zzM ad cy iM aM) H → va_D A (zzM ad cy iM aM) → va_S A s.heap H locs → W p l e ({ frames := 0, cells := 0, slots := 0, locals := 0 } : Room) s m args below meth c H locs 0 0 QQ (F0 m 0 ls [])) s.heap [] hP hD hS
  clear hP hD hS
  intro H locs hP hD hS
  unfold f_M_types at h
  refine lv_iconst (v := 1) hx hb dX8_types_0 (by decide) ?_
  refine lv_aload_n hx hb dX8_types_1 rfl (lv_at hl 0 rfl) ?_
  refine va_get (D := (dC, dI)) (ci := 8) (v := .int (iM 36)) (C := RX8) (T := TX8) (N := 78) hx hb hts ki8 hown hK hP 0 rfl rfl 36 (by decide) kf353 (fun _ h9 => h9) rfl dX8_types_2 ?_
  refine lv_ishl hx hb dX8_types_5 ?_
  have h' := Option.some.inj h
  rw [← hQQ]
  exact W.iret (v := ((1 : Int32) <<< ((iM 36) &&& 31))) hx hb hr (fun t ht hW => ⟨⟨((1 : Int32) <<< ((iM 36) &&& 31)), (), rfl, by rw [← h'], by rw [← hWQ, ht]; exact hP, va_K.moved hW.alike hK⟩, hS.F ht⟩) hS.2.2 dX8_types_6
