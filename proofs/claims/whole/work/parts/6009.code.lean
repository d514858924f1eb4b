set_option maxHeartbeats 8000000 in
set_option maxRecDepth 100000 in
theorem c_M_next (l : Launch) (dC : Nat → ClassId) (dI : Nat → Nat → Nat) (cy : Nat → ClassId) (ad : Nat → Nat) (sz : Nat) (N : Nat) (iM : Nat → Int32) (aM : Nat → Nat → Int32) (q : Int32 × Int32 × Int32 × Int32 × Int32) (h : f_M_next N (iM 1) (iM 2) (iM 3) (iM 4) (iM 5) (iM 6) (aM 0) = some q) : Met l yX8_next wsX8_next ({ frames := 2, cells := 0, slots := 0, locals := 45 } : Room) (cP (dC, dI) cy [.ref (ad 0)] (zzM ad cy iM aM) sz) (cQv (dC, dI) cy (zzM ad cy (us iM [(2, q.1), (3, q.2.1), (4, q.2.2.1), (5, q.2.2.2.1), (6, q.2.2.2.2)]) aM) (va_A (zzM ad cy iM aM) sz)) 0 0 (va_A (zzM ad cy iM aM) sz) := by
  refine Met.ofW (cc := cX8_next) (maxL := 2) (ret := none) (by decide) rfl ?_
  intro p e s m args below meth c s₁ B hml hv
  obtain ⟨hav, hsz, hP, hK, hD0, hN⟩ := hv
  have hx := B.exec
  have hb := B.bytes
  have hr := B.returns
  have hts := atoms_spec (ws := wsX8_next) B.pre
  have hown : s.vm.findClass RX8 = some m.cls := findClass_of_methodNamed B.named
  have hlocks := B.notSynchronized
  subst hsz
  have hD := hD0.self (sz := s.heap.size)
  generalize hAe : va_A (zzM ad cy iM aM) s.heap.size = A at hD ⊢
  have hA : ∀ q : Nat, s.heap.size ≤ q → A q := fun q h => by rw [← hAe]; exact Or.inr h
  have hS : va_S A s.heap s.heap [] := va_S.rf
  generalize hWQ : (zzM ad cy (us iM [(2, q.1), (3, q.2.1), (4, q.2.2.1), (5, q.2.2.2.1), (6, q.2.2.2.2)]) aM) = WQ
  generalize hQQ : MQ below (cQv (dC, dI) cy WQ A) args s 0 0 A = QQ
  have hl := lv_entry ([.ref (ad 0)] : List Value) (n := 2) (Nat.le_of_ble_eq_true rfl)
  have hfr := lg_entry_eq m ([.ref (ad 0)] : List Value) 2
  rw [← hav] at hfr
  rw [hfr]
  clear hfr hav
  generalize (lg_sl ([.ref (ad 0)] : List Value) ++ List.replicate (2 - (lg_sl ([.ref (ad 0)] : List Value)).length) Slot.unset).toArray = ls at hl ⊢
  have hl : lv_has ls 2 [(0, .ref (ad 0))] := hl
  have kf166 := hts _ (List.mem_cons_of_mem _ m_fl_X8_166)
  have ki8 := (fun w h => List.mem_cons_of_mem _ (i_X8 w h) : ∀ w ∈ u_ws RX8 TX8 78, w ∈ wsX8_next)
  have kf178 := hts _ (List.mem_cons_of_mem _ m_fl_X8_178)
  have kf169 := hts _ (List.mem_cons_of_mem _ m_fl_X8_169)
  have kf172 := hts _ (List.mem_cons_of_mem _ m_fl_X8_172)
  have kf7 := hts _ (List.mem_cons_of_mem _ m_fl_X8_7)
  have kf147 := hts _ (List.mem_cons_of_mem _ m_fl_X8_147)
  have kf175 := hts _ (List.mem_cons_of_mem _ m_fl_X8_175)
  refine (?_ : ∀ (H : Heap) (locs : List Loc), va_P (dC, dI) vwCl (zzM ad cy iM aM) H → va_D A (zzM ad cy iM aM) → va_S A s.heap H locs → W p l e ({ frames := 2, cells := 0, slots := 0, locals := 45 } : Room) s m args below meth c H locs 0 0 QQ (F0 m 0 ls [])) s.heap [] hP hD hS
  clear hP hD hS
  have B247 : ∀ (v1 : Int32) (x_iM3 : Int32) (x_iM4 : Int32) (x_iM5 : Int32) (x_iM6 : Int32) (H : Heap) (locs : List Loc) (ls : Array Slot), f_M_next_247 N (iM 1) (iM 2) (iM 3) (iM 4) (iM 5) (iM 6) (aM 0) v1 x_iM3 x_iM4 x_iM5 x_iM6 = some q → va_P (dC, dI) vwCl (zzM ad cy (us iM [(3, x_iM3), (4, x_iM4), (5, x_iM5), (6, x_iM6)]) aM) H → va_D A (zzM ad cy (us iM [(3, x_iM3), (4, x_iM4), (5, x_iM5), (6, x_iM6)]) aM) → va_S A s.heap H locs → lv_has ls 2 [(0, .ref (ad 0)), (1, .int v1)] → W p l e ({ frames := 2, cells := 0, slots := 0, locals := 45 } : Room) s m args below meth c H locs 0 0 QQ (F0 m 247 ls []) := by
    intro v1 x_iM3 x_iM4 x_iM5 x_iM6 H locs ls h hP hD hS hl
    unfold f_M_next_247 at h
    refine lv_aload_n hx hb dX8_next_247 rfl (lv_at hl 0 rfl) ?_
    refine lv_iload_n hx hb dX8_next_248 rfl (lv_at hl 1 rfl) ?_
    refine va_put (D := (dC, dI)) (ci := 8) (v := .int v1) (ty := .int) (C := RX8) (T := TX8) (N := 78) hx hb hts ki8 tyX8 tyX8_ok nmX8 hown hK hP hD hS 0 rfl rfl 2 (by decide) kf166 (fun _ h9 => h9) rfl (by decide +kernel) rfl rfl (Nat.le_of_ble_eq_true rfl) dX8_next_249 (fun H locs hP hD hS => ?_)
    have hP : va_P (dC, dI) vwCl (zzM ad cy (us iM [(2, v1), (3, x_iM3), (4, x_iM4), (5, x_iM5), (6, x_iM6)]) aM) H := Eq.mp (congrArg (fun w => va_P (dC, dI) vwCl w H) (stM_iM2 ad cy iM aM [(3, x_iM3), (4, x_iM4), (5, x_iM5), (6, x_iM6)] v1)) hP
    have hD : va_D A (zzM ad cy (us iM [(2, v1), (3, x_iM3), (4, x_iM4), (5, x_iM5), (6, x_iM6)]) aM) := Eq.mp (congrArg (fun w => va_D A w) (stM_iM2 ad cy iM aM [(3, x_iM3), (4, x_iM4), (5, x_iM5), (6, x_iM6)] v1)) hD
    have h' := Option.some.inj h
    rw [← hQQ]
    exact W.vret hx hb hr (fun t ht hW => ⟨⟨(), rfl, trivial, by rw [← hWQ, ← h', ht]; exact hP, va_K.moved hW.alike hK⟩, hS.F ht⟩) hS.2.2 dX8_next_252
  have B174 : ∀ (v1 : Int32) (s1 : Int32) (x_iM4 : Int32) (x_iM5 : Int32) (x_iM6 : Int32) (H : Heap) (locs : List Loc) (ls : Array Slot), f_M_next_174 N (iM 1) (iM 2) (iM 3) (iM 4) (iM 5) (iM 6) (aM 0) v1 s1 x_iM4 x_iM5 x_iM6 = some q → va_P (dC, dI) vwCl (zzM ad cy (us iM [(4, x_iM4), (5, x_iM5), (6, x_iM6)]) aM) H → va_D A (zzM ad cy (us iM [(4, x_iM4), (5, x_iM5), (6, x_iM6)]) aM) → va_S A s.heap H locs → lv_has ls 2 [(0, .ref (ad 0)), (1, .int v1)] → W p l e ({ frames := 2, cells := 0, slots := 0, locals := 45 } : Room) s m args below meth c H locs 0 0 QQ (F0 m 174 ls [.int s1, .ref (ad 0)]) := by
    intro v1 s1 x_iM4 x_iM5 x_iM6 H locs ls h hP hD hS hl
    unfold f_M_next_174 at h
    refine va_put (D := (dC, dI)) (ci := 8) (v := .int s1) (ty := .int) (C := RX8) (T := TX8) (N := 78) hx hb hts ki8 tyX8 tyX8_ok nmX8 hown hK hP hD hS 0 rfl rfl 3 (by decide) kf178 (fun _ h9 => h9) rfl (by decide +kernel) rfl rfl (Nat.le_of_ble_eq_true rfl) dX8_next_174 (fun H locs hP hD hS => ?_)
    have hP : va_P (dC, dI) vwCl (zzM ad cy (us iM [(3, s1), (4, x_iM4), (5, x_iM5), (6, x_iM6)]) aM) H := Eq.mp (congrArg (fun w => va_P (dC, dI) vwCl w H) (stM_iM3 ad cy iM aM [(4, x_iM4), (5, x_iM5), (6, x_iM6)] s1)) hP
    have hD : va_D A (zzM ad cy (us iM [(3, s1), (4, x_iM4), (5, x_iM5), (6, x_iM6)]) aM) := Eq.mp (congrArg (fun w => va_D A w) (stM_iM3 ad cy iM aM [(4, x_iM4), (5, x_iM5), (6, x_iM6)] s1)) hD
    refine lv_goto (tgt := 247) hx hb dX8_next_177 (by decide) ?_
    exact B247 v1 s1 x_iM4 x_iM5 x_iM6 H locs ls h hP hD hS (lv_sub hl [0, 1] rfl)
  have B134 : ∀ (v1 : Int32) (x_iM4 : Int32) (x_iM5 : Int32) (x_iM6 : Int32) (H : Heap) (locs : List Loc) (ls : Array Slot), f_M_next_134 N (iM 1) (iM 2) (iM 3) (iM 4) (iM 5) (iM 6) (aM 0) v1 x_iM4 x_iM5 x_iM6 = some q → va_P (dC, dI) vwCl (zzM ad cy (us iM [(4, x_iM4), (5, x_iM5), (6, x_iM6)]) aM) H → va_D A (zzM ad cy (us iM [(4, x_iM4), (5, x_iM5), (6, x_iM6)]) aM) → va_S A s.heap H locs → lv_has ls 2 [(0, .ref (ad 0)), (1, .int v1)] → W p l e ({ frames := 2, cells := 0, slots := 0, locals := 45 } : Room) s m args below meth c H locs 0 0 QQ (F0 m 134 ls []) := by
    intro v1 x_iM4 x_iM5 x_iM6 H locs ls h hP hD hS hl
    unfold f_M_next_134 at h
    refine lv_aload_n hx hb dX8_next_134 rfl (lv_at hl 0 rfl) ?_
    refine lv_iload_n hx hb dX8_next_135 rfl (lv_at hl 1 rfl) ?_
    refine lv_aload_n hx hb dX8_next_136 rfl (lv_at hl 0 rfl) ?_
    refine va_get (D := (dC, dI)) (ci := 8) (v := .int x_iM4) (C := RX8) (T := TX8) (N := 78) hx hb hts ki8 hown hK hP 0 rfl rfl 4 (by decide) kf169 (fun _ h9 => h9) rfl dX8_next_137 ?_
    refine lv_isub hx hb dX8_next_140 ?_
    refine va_put (D := (dC, dI)) (ci := 8) (v := .int ((v1 - x_iM4))) (ty := .int) (C := RX8) (T := TX8) (N := 78) hx hb hts ki8 tyX8 tyX8_ok nmX8 hown hK hP hD hS 0 rfl rfl 5 (by decide) kf172 (fun _ h9 => h9) rfl (by decide +kernel) rfl rfl (Nat.le_of_ble_eq_true rfl) dX8_next_141 (fun H locs hP hD hS => ?_)
    have hP : va_P (dC, dI) vwCl (zzM ad cy (us iM [(4, x_iM4), (5, (v1 - x_iM4)), (6, x_iM6)]) aM) H := Eq.mp (congrArg (fun w => va_P (dC, dI) vwCl w H) (stM_iM5 ad cy iM aM [(4, x_iM4), (5, x_iM5), (6, x_iM6)] ((v1 - x_iM4)))) hP
    have hD : va_D A (zzM ad cy (us iM [(4, x_iM4), (5, (v1 - x_iM4)), (6, x_iM6)]) aM) := Eq.mp (congrArg (fun w => va_D A w) (stM_iM5 ad cy iM aM [(4, x_iM4), (5, x_iM5), (6, x_iM6)] ((v1 - x_iM4)))) hD
    refine lv_aload_n hx hb dX8_next_144 rfl (lv_at hl 0 rfl) ?_
    refine lv_aload_n hx hb dX8_next_145 rfl (lv_at hl 0 rfl) ?_
    refine va_get (D := (dC, dI)) (ci := 8) (v := .ref (ad 1)) (C := RX8) (T := TX8) (N := 78) hx hb hts ki8 hown hK hP 0 rfl rfl 0 (by decide) kf7 (fun _ h9 => h9) rfl dX8_next_146 ?_
    refine lv_aload_n hx hb dX8_next_149 rfl (lv_at hl 0 rfl) ?_
    refine va_get (D := (dC, dI)) (ci := 8) (v := .int x_iM4) (C := RX8) (T := TX8) (N := 78) hx hb hts ki8 hown hK hP 0 rfl rfl 4 (by decide) kf169 (fun _ h9 => h9) rfl dX8_next_150 ?_
    obtain ⟨g_48, h⟩ := g_n h
    refine va_bald (f := (aM 0)) hx hb hK hP 1 1 rfl rfl g_48 dX8_next_153 ?_
    obtain ⟨q154, e154, h⟩ := g_b h
    refine callSi (cc := cX8_next) (ws' := zzM ad cy (us iM [(4, x_iM4), (5, (v1 - x_iM4)), (6, x_iM6)]) aM) (As := [.int (((aM 0) x_iM4.toNatClampNeg))]) (rest := [.ref (ad 0)]) ⟨hx, hb, hml, hown, hts⟩ (c_M_isLetter l dC dI cy ad H.size (((aM 0) x_iM4.toNatClampNeg)) q154 e154) (va_cwS 1 hts (goodS m_ml_X8_181 m_st_X8_isLetter m_in_X8 m_cd_X8_isLetter) rfl rfl rfl (by decide +kernel) ⟨Nat.le_of_ble_eq_true rfl, Nat.le_of_ble_eq_true rfl⟩) hN hK hP hD hS hA [] [none, none, none, none, none, none, none, none, none, none, none, none, none, none, none, none, none, none, none, none, none, none, none, none, none, none, none, none, none, none, none, none, none, none, none, none, none, none, none, none, none, none, none, none] rfl rfl rfl rfl rfl rfl rfl hl.1 rfl (Nat.le_of_ble_eq_true rfl) dX8_next_154 ⟨Nat.zero_le _, Nat.zero_le _⟩ (fun H locs hP hD hS => ?_)
    refine lv_if_eq (tgt := 173) hx hb dX8_next_157 (by decide) (fun cz => ?_) (fun cz => ?_)
    · have h := g_t h cz
      refine lv_iconst (v := 3) hx hb dX8_next_173 (by decide) ?_
      exact B174 v1 ((3 : Int32)) x_iM4 ((v1 - x_iM4)) x_iM6 H locs ls h hP hD hS (lv_sub hl [0, 1] rfl)
    · have h := g_f h cz
      refine lv_aload_n hx hb dX8_next_160 rfl (lv_at hl 0 rfl) ?_
      refine va_get (D := (dC, dI)) (ci := 8) (v := .int ((v1 - x_iM4))) (C := RX8) (T := TX8) (N := 78) hx hb hts ki8 hown hK hP 0 rfl rfl 5 (by decide) kf172 (fun _ h9 => h9) rfl dX8_next_161 ?_
      refine lv_bipush (v := 8) hx hb dX8_next_164 (by decide) ?_
      refine lv_icmp_gt (tgt := 173) hx hb dX8_next_166 (by decide) (fun cz => ?_) (fun cz => ?_)
      · have h := g_t h cz
        refine lv_iconst (v := 3) hx hb dX8_next_173 (by decide) ?_
        exact B174 v1 ((3 : Int32)) x_iM4 ((v1 - x_iM4)) x_iM6 H locs ls h hP hD hS (lv_sub hl [0, 1] rfl)
      · have h := g_f h cz
        refine lv_iconst (v := 1) hx hb dX8_next_169 (by decide) ?_
        refine lv_goto (tgt := 174) hx hb dX8_next_170 (by decide) ?_
        exact B174 v1 ((1 : Int32)) x_iM4 ((v1 - x_iM4)) x_iM6 H locs ls h hP hD hS (lv_sub hl [0, 1] rfl)
  have B96 : ∀ (n : Nat) (x_iM4 : Int32) (x_iM5 : Int32) (x_iM6 : Int32) (v1 : Int32) (H : Heap) (locs : List Loc) (ls : Array Slot), f_M_next_96 N (iM 1) (iM 2) (iM 3) (iM 4) (iM 5) (iM 6) (aM 0) x_iM4 x_iM5 x_iM6 n v1 = some q → va_P (dC, dI) vwCl (zzM ad cy (us iM [(4, x_iM4), (5, x_iM5), (6, x_iM6)]) aM) H → va_D A (zzM ad cy (us iM [(4, x_iM4), (5, x_iM5), (6, x_iM6)]) aM) → va_S A s.heap H locs → lv_has ls 2 [(0, .ref (ad 0)), (1, .int v1)] → W p l e ({ frames := 2, cells := 0, slots := 0, locals := 45 } : Room) s m args below meth c H locs 0 0 QQ (F0 m 96 ls []) := by
    intro n
    induction n with
    | zero =>
      intro x_iM4 x_iM5 x_iM6 v1 H locs ls h hP hD hS hl
      rw [f_M_next_96] at h
      cases h
    | succ n ih =>
      intro x_iM4 x_iM5 x_iM6 v1 H locs ls h hP hD hS hl
      rw [f_M_next_96] at h
      refine lv_iload_n hx hb dX8_next_96 rfl (lv_at hl 1 rfl) ?_
      refine lv_aload_n hx hb dX8_next_97 rfl (lv_at hl 0 rfl) ?_
      refine va_get (D := (dC, dI)) (ci := 8) (v := .int (iM 1)) (C := RX8) (T := TX8) (N := 78) hx hb hts ki8 hown hK hP 0 rfl rfl 1 (by decide) kf147 (fun _ h9 => h9) rfl dX8_next_98 ?_
      refine lv_icmp_ge (tgt := 134) hx hb dX8_next_101 (by decide) (fun cz => ?_) (fun cz => ?_)
      · have h := g_t h cz
        exact B134 v1 x_iM4 x_iM5 x_iM6 H locs ls h hP hD hS (lv_sub hl [0, 1] rfl)
      · have h := g_f h cz
        refine lv_aload_n hx hb dX8_next_104 rfl (lv_at hl 0 rfl) ?_
        refine va_get (D := (dC, dI)) (ci := 8) (v := .ref (ad 1)) (C := RX8) (T := TX8) (N := 78) hx hb hts ki8 hown hK hP 0 rfl rfl 0 (by decide) kf7 (fun _ h9 => h9) rfl dX8_next_105 ?_
        refine lv_iload_n hx hb dX8_next_108 rfl (lv_at hl 1 rfl) ?_
        obtain ⟨g_49, h⟩ := g_n h
        refine va_bald (f := (aM 0)) hx hb hK hP 1 1 rfl rfl g_49 dX8_next_109 ?_
        obtain ⟨q110, e110, h⟩ := g_b h
        refine callSi (cc := cX8_next) (ws' := zzM ad cy (us iM [(4, x_iM4), (5, x_iM5), (6, x_iM6)]) aM) (As := [.int (((aM 0) v1.toNatClampNeg))]) (rest := []) ⟨hx, hb, hml, hown, hts⟩ (c_M_isLetter l dC dI cy ad H.size (((aM 0) v1.toNatClampNeg)) q110 e110) (va_cwS 1 hts (goodS m_ml_X8_181 m_st_X8_isLetter m_in_X8 m_cd_X8_isLetter) rfl rfl rfl (by decide +kernel) ⟨Nat.le_of_ble_eq_true rfl, Nat.le_of_ble_eq_true rfl⟩) hN hK hP hD hS hA [] [none, none, none, none, none, none, none, none, none, none, none, none, none, none, none, none, none, none, none, none, none, none, none, none, none, none, none, none, none, none, none, none, none, none, none, none, none, none, none, none, none, none, none, none] rfl rfl rfl rfl rfl rfl rfl hl.1 rfl (Nat.le_of_ble_eq_true rfl) dX8_next_110 ⟨Nat.zero_le _, Nat.zero_le _⟩ (fun H locs hP hD hS => ?_)
        refine lv_if_ne (tgt := 128) hx hb dX8_next_113 (by decide) (fun cz => ?_) (fun cz => ?_)
        · have h := g_f h cz
          refine lv_iinc (v := (v1 + (1 : Int32))) (lv' := [(1, .int ((v1 + (1 : Int32)))), (0, .ref (ad 0))]) hx hb dX8_next_128 hl (k := 1) rfl rfl (by decide) rfl (fun ls hl => ?_)
          refine lv_goto (tgt := 96) hx hb dX8_next_131 (by decide) ?_
          exact ih x_iM4 x_iM5 x_iM6 ((v1 + (1 : Int32))) H locs ls h hP hD hS (lv_sub hl [1, 0] rfl)
        · have h := g_t h cz
          refine lv_aload_n hx hb dX8_next_116 rfl (lv_at hl 0 rfl) ?_
          refine va_get (D := (dC, dI)) (ci := 8) (v := .ref (ad 1)) (C := RX8) (T := TX8) (N := 78) hx hb hts ki8 hown hK hP 0 rfl rfl 0 (by decide) kf7 (fun _ h9 => h9) rfl dX8_next_117 ?_
          refine lv_iload_n hx hb dX8_next_120 rfl (lv_at hl 1 rfl) ?_
          refine va_bald (f := (aM 0)) hx hb hK hP 1 1 rfl rfl g_49 dX8_next_121 ?_
          obtain ⟨q122, e122, h⟩ := g_b h
          refine callSi (cc := cX8_next) (ws' := zzM ad cy (us iM [(4, x_iM4), (5, x_iM5), (6, x_iM6)]) aM) (As := [.int (((aM 0) v1.toNatClampNeg))]) (rest := []) ⟨hx, hb, hml, hown, hts⟩ (c_M_isFigure l dC dI cy ad H.size (((aM 0) v1.toNatClampNeg)) q122 e122) (va_cwS 1 hts (goodS m_ml_X8_185 m_st_X8_isFigure m_in_X8 m_cd_X8_isFigure) rfl rfl rfl (by decide +kernel) ⟨Nat.le_of_ble_eq_true rfl, Nat.le_of_ble_eq_true rfl⟩) hN hK hP hD hS hA [] [none, none, none, none, none, none, none, none, none, none, none, none, none, none, none, none, none, none, none, none, none, none, none, none, none, none, none, none, none, none, none, none, none, none, none, none, none, none, none, none, none, none, none, none] rfl rfl rfl rfl rfl rfl rfl hl.1 rfl (Nat.le_of_ble_eq_true rfl) dX8_next_122 ⟨Nat.zero_le _, Nat.zero_le _⟩ (fun H locs hP hD hS => ?_)
          refine lv_if_eq (tgt := 134) hx hb dX8_next_125 (by decide) (fun cz => ?_) (fun cz => ?_)
          · have h := g_t h cz
            exact B134 v1 x_iM4 x_iM5 x_iM6 H locs ls h hP hD hS (lv_sub hl [0, 1] rfl)
          · have h := g_f h cz
            refine lv_iinc (v := (v1 + (1 : Int32))) (lv' := [(1, .int ((v1 + (1 : Int32)))), (0, .ref (ad 0))]) hx hb dX8_next_128 hl (k := 1) rfl rfl (by decide) rfl (fun ls hl => ?_)
            refine lv_goto (tgt := 96) hx hb dX8_next_131 (by decide) ?_
            exact ih x_iM4 x_iM5 x_iM6 ((v1 + (1 : Int32))) H locs ls h hP hD hS (lv_sub hl [1, 0] rfl)
  have B241 : ∀ (v1 : Int32) (s1 : Int32) (x_iM4 : Int32) (x_iM5 : Int32) (x_iM6 : Int32) (H : Heap) (locs : List Loc) (ls : Array Slot), f_M_next_241 N (iM 1) (iM 2) (iM 3) (iM 4) (iM 5) (iM 6) (aM 0) v1 s1 x_iM4 x_iM5 x_iM6 = some q → va_P (dC, dI) vwCl (zzM ad cy (us iM [(4, x_iM4), (5, x_iM5), (6, x_iM6)]) aM) H → va_D A (zzM ad cy (us iM [(4, x_iM4), (5, x_iM5), (6, x_iM6)]) aM) → va_S A s.heap H locs → lv_has ls 2 [(0, .ref (ad 0)), (1, .int v1)] → W p l e ({ frames := 2, cells := 0, slots := 0, locals := 45 } : Room) s m args below meth c H locs 0 0 QQ (F0 m 241 ls [.int s1, .ref (ad 0)]) := by
    intro v1 s1 x_iM4 x_iM5 x_iM6 H locs ls h hP hD hS hl
    unfold f_M_next_241 at h
    refine va_put (D := (dC, dI)) (ci := 8) (v := .int s1) (ty := .int) (C := RX8) (T := TX8) (N := 78) hx hb hts ki8 tyX8 tyX8_ok nmX8 hown hK hP hD hS 0 rfl rfl 3 (by decide) kf178 (fun _ h9 => h9) rfl (by decide +kernel) rfl rfl (Nat.le_of_ble_eq_true rfl) dX8_next_241 (fun H locs hP hD hS => ?_)
    have hP : va_P (dC, dI) vwCl (zzM ad cy (us iM [(3, s1), (4, x_iM4), (5, x_iM5), (6, x_iM6)]) aM) H := Eq.mp (congrArg (fun w => va_P (dC, dI) vwCl w H) (stM_iM3 ad cy iM aM [(4, x_iM4), (5, x_iM5), (6, x_iM6)] s1)) hP
    have hD : va_D A (zzM ad cy (us iM [(3, s1), (4, x_iM4), (5, x_iM5), (6, x_iM6)]) aM) := Eq.mp (congrArg (fun w => va_D A w) (stM_iM3 ad cy iM aM [(4, x_iM4), (5, x_iM5), (6, x_iM6)] s1)) hD
    refine lv_iinc (v := (v1 + (1 : Int32))) (lv' := [(1, .int ((v1 + (1 : Int32)))), (0, .ref (ad 0))]) hx hb dX8_next_244 hl (k := 1) rfl rfl (by decide) rfl (fun ls hl => ?_)
    exact B247 ((v1 + (1 : Int32))) s1 x_iM4 x_iM5 x_iM6 H locs ls h hP hD hS (lv_sub hl [1, 0] rfl)
  have B41 : ∀ (v1 : Int32) (H : Heap) (locs : List Loc) (ls : Array Slot), f_M_next_41 N (iM 1) (iM 2) (iM 3) (iM 4) (iM 5) (iM 6) (aM 0) v1 = some q → va_P (dC, dI) vwCl (zzM ad cy iM aM) H → va_D A (zzM ad cy iM aM) → va_S A s.heap H locs → lv_has ls 2 [(0, .ref (ad 0)), (1, .int v1)] → W p l e ({ frames := 2, cells := 0, slots := 0, locals := 45 } : Room) s m args below meth c H locs 0 0 QQ (F0 m 41 ls []) := by
    intro v1 H locs ls h hP hD hS hl
    unfold f_M_next_41 at h
    refine lv_aload_n hx hb dX8_next_41 rfl (lv_at hl 0 rfl) ?_
    refine lv_iload_n hx hb dX8_next_42 rfl (lv_at hl 1 rfl) ?_
    refine va_put (D := (dC, dI)) (ci := 8) (v := .int v1) (ty := .int) (C := RX8) (T := TX8) (N := 78) hx hb hts ki8 tyX8 tyX8_ok nmX8 hown hK hP hD hS 0 rfl rfl 4 (by decide) kf169 (fun _ h9 => h9) rfl (by decide +kernel) rfl rfl (Nat.le_of_ble_eq_true rfl) dX8_next_43 (fun H locs hP hD hS => ?_)
    have hP : va_P (dC, dI) vwCl (zzM ad cy (us iM [(4, v1)]) aM) H := Eq.mp (congrArg (fun w => va_P (dC, dI) vwCl w H) (sfM_iM4 ad cy iM aM v1)) hP
    have hD : va_D A (zzM ad cy (us iM [(4, v1)]) aM) := Eq.mp (congrArg (fun w => va_D A w) (sfM_iM4 ad cy iM aM v1)) hD
    refine lv_aload_n hx hb dX8_next_46 rfl (lv_at hl 0 rfl) ?_
    refine lv_iconst (v := 0) hx hb dX8_next_47 (by decide) ?_
    refine va_put (D := (dC, dI)) (ci := 8) (v := .int ((0 : Int32))) (ty := .int) (C := RX8) (T := TX8) (N := 78) hx hb hts ki8 tyX8 tyX8_ok nmX8 hown hK hP hD hS 0 rfl rfl 5 (by decide) kf172 (fun _ h9 => h9) rfl (by decide +kernel) rfl rfl (Nat.le_of_ble_eq_true rfl) dX8_next_48 (fun H locs hP hD hS => ?_)
    have hP : va_P (dC, dI) vwCl (zzM ad cy (us iM [(4, v1), (5, (0 : Int32))]) aM) H := Eq.mp (congrArg (fun w => va_P (dC, dI) vwCl w H) (stM_iM5 ad cy iM aM [(4, v1)] ((0 : Int32)))) hP
    have hD : va_D A (zzM ad cy (us iM [(4, v1), (5, (0 : Int32))]) aM) := Eq.mp (congrArg (fun w => va_D A w) (stM_iM5 ad cy iM aM [(4, v1)] ((0 : Int32)))) hD
    refine lv_aload_n hx hb dX8_next_51 rfl (lv_at hl 0 rfl) ?_
    refine lv_iconst (v := 0) hx hb dX8_next_52 (by decide) ?_
    refine va_put (D := (dC, dI)) (ci := 8) (v := .int ((0 : Int32))) (ty := .int) (C := RX8) (T := TX8) (N := 78) hx hb hts ki8 tyX8 tyX8_ok nmX8 hown hK hP hD hS 0 rfl rfl 6 (by decide) kf175 (fun _ h9 => h9) rfl (by decide +kernel) rfl rfl (Nat.le_of_ble_eq_true rfl) dX8_next_53 (fun H locs hP hD hS => ?_)
    have hP : va_P (dC, dI) vwCl (zzM ad cy (us iM [(4, v1), (5, (0 : Int32)), (6, (0 : Int32))]) aM) H := Eq.mp (congrArg (fun w => va_P (dC, dI) vwCl w H) (stM_iM6 ad cy iM aM [(4, v1), (5, (0 : Int32))] ((0 : Int32)))) hP
    have hD : va_D A (zzM ad cy (us iM [(4, v1), (5, (0 : Int32)), (6, (0 : Int32))]) aM) := Eq.mp (congrArg (fun w => va_D A w) (stM_iM6 ad cy iM aM [(4, v1), (5, (0 : Int32))] ((0 : Int32)))) hD
    refine lv_iload_n hx hb dX8_next_56 rfl (lv_at hl 1 rfl) ?_
    refine lv_aload_n hx hb dX8_next_57 rfl (lv_at hl 0 rfl) ?_
    refine va_get (D := (dC, dI)) (ci := 8) (v := .int (iM 1)) (C := RX8) (T := TX8) (N := 78) hx hb hts ki8 hown hK hP 0 rfl rfl 1 (by decide) kf147 (fun _ h9 => h9) rfl dX8_next_58 ?_
    refine lv_icmp_ne (tgt := 72) hx hb dX8_next_61 (by decide) (fun cz => ?_) (fun cz => ?_)
    · have h := g_f h cz
      refine lv_aload_n hx hb dX8_next_72 rfl (lv_at hl 0 rfl) ?_
      refine va_get (D := (dC, dI)) (ci := 8) (v := .ref (ad 1)) (C := RX8) (T := TX8) (N := 78) hx hb hts ki8 hown hK hP 0 rfl rfl 0 (by decide) kf7 (fun _ h9 => h9) rfl dX8_next_73 ?_
      refine lv_iload_n hx hb dX8_next_76 rfl (lv_at hl 1 rfl) ?_
      obtain ⟨g_49, h⟩ := g_n h
      refine va_bald (f := (aM 0)) hx hb hK hP 1 1 rfl rfl g_49 dX8_next_77 ?_
      obtain ⟨q78, e78, h⟩ := g_b h
      refine callSi (cc := cX8_next) (ws' := zzM ad cy (us iM [(4, v1), (5, (0 : Int32)), (6, (0 : Int32))]) aM) (As := [.int (((aM 0) v1.toNatClampNeg))]) (rest := []) ⟨hx, hb, hml, hown, hts⟩ (c_M_isLetter l dC dI cy ad H.size (((aM 0) v1.toNatClampNeg)) q78 e78) (va_cwS 1 hts (goodS m_ml_X8_181 m_st_X8_isLetter m_in_X8 m_cd_X8_isLetter) rfl rfl rfl (by decide +kernel) ⟨Nat.le_of_ble_eq_true rfl, Nat.le_of_ble_eq_true rfl⟩) hN hK hP hD hS hA [] [none, none, none, none, none, none, none, none, none, none, none, none, none, none, none, none, none, none, none, none, none, none, none, none, none, none, none, none, none, none, none, none, none, none, none, none, none, none, none, none, none, none, none, none] rfl rfl rfl rfl rfl rfl rfl hl.1 rfl (Nat.le_of_ble_eq_true rfl) dX8_next_78 ⟨Nat.zero_le _, Nat.zero_le _⟩ (fun H locs hP hD hS => ?_)
      refine lv_if_ne (tgt := 96) hx hb dX8_next_81 (by decide) (fun cz => ?_) (fun cz => ?_)
      · have h := g_f h cz
        exact B96 N v1 ((0 : Int32)) ((0 : Int32)) v1 H locs ls h hP hD hS (lv_sub hl [0, 1] rfl)
      · have h := g_t h cz
        refine lv_aload_n hx hb dX8_next_84 rfl (lv_at hl 0 rfl) ?_
        refine va_get (D := (dC, dI)) (ci := 8) (v := .ref (ad 1)) (C := RX8) (T := TX8) (N := 78) hx hb hts ki8 hown hK hP 0 rfl rfl 0 (by decide) kf7 (fun _ h9 => h9) rfl dX8_next_85 ?_
        refine lv_iload_n hx hb dX8_next_88 rfl (lv_at hl 1 rfl) ?_
        refine va_bald (f := (aM 0)) hx hb hK hP 1 1 rfl rfl g_49 dX8_next_89 ?_
        obtain ⟨q90, e90, h⟩ := g_b h
        refine callSi (cc := cX8_next) (ws' := zzM ad cy (us iM [(4, v1), (5, (0 : Int32)), (6, (0 : Int32))]) aM) (As := [.int (((aM 0) v1.toNatClampNeg))]) (rest := []) ⟨hx, hb, hml, hown, hts⟩ (c_M_isFigure l dC dI cy ad H.size (((aM 0) v1.toNatClampNeg)) q90 e90) (va_cwS 1 hts (goodS m_ml_X8_185 m_st_X8_isFigure m_in_X8 m_cd_X8_isFigure) rfl rfl rfl (by decide +kernel) ⟨Nat.le_of_ble_eq_true rfl, Nat.le_of_ble_eq_true rfl⟩) hN hK hP hD hS hA [] [none, none, none, none, none, none, none, none, none, none, none, none, none, none, none, none, none, none, none, none, none, none, none, none, none, none, none, none, none, none, none, none, none, none, none, none, none, none, none, none, none, none, none, none] rfl rfl rfl rfl rfl rfl rfl hl.1 rfl (Nat.le_of_ble_eq_true rfl) dX8_next_90 ⟨Nat.zero_le _, Nat.zero_le _⟩ (fun H locs hP hD hS => ?_)
        refine lv_if_eq (tgt := 180) hx hb dX8_next_93 (by decide) (fun cz => ?_) (fun cz => ?_)
        · have h := g_t h cz
          refine lv_aload_n hx hb dX8_next_180 rfl (lv_at hl 0 rfl) ?_
          refine lv_aload_n hx hb dX8_next_181 rfl (lv_at hl 0 rfl) ?_
          refine va_get (D := (dC, dI)) (ci := 8) (v := .ref (ad 1)) (C := RX8) (T := TX8) (N := 78) hx hb hts ki8 hown hK hP 0 rfl rfl 0 (by decide) kf7 (fun _ h9 => h9) rfl dX8_next_182 ?_
          refine lv_iload_n hx hb dX8_next_185 rfl (lv_at hl 1 rfl) ?_
          refine va_bald (f := (aM 0)) hx hb hK hP 1 1 rfl rfl g_49 dX8_next_186 ?_
          refine va_put (D := (dC, dI)) (ci := 8) (v := .int (((aM 0) v1.toNatClampNeg))) (ty := .int) (C := RX8) (T := TX8) (N := 78) hx hb hts ki8 tyX8 tyX8_ok nmX8 hown hK hP hD hS 0 rfl rfl 6 (by decide) kf175 (fun _ h9 => h9) rfl (by decide +kernel) rfl rfl (Nat.le_of_ble_eq_true rfl) dX8_next_187 (fun H locs hP hD hS => ?_)
          have hP : va_P (dC, dI) vwCl (zzM ad cy (us iM [(4, v1), (5, (0 : Int32)), (6, ((aM 0) v1.toNatClampNeg))]) aM) H := Eq.mp (congrArg (fun w => va_P (dC, dI) vwCl w H) (stM_iM6 ad cy iM aM [(4, v1), (5, (0 : Int32)), (6, (0 : Int32))] (((aM 0) v1.toNatClampNeg)))) hP
          have hD : va_D A (zzM ad cy (us iM [(4, v1), (5, (0 : Int32)), (6, ((aM 0) v1.toNatClampNeg))]) aM) := Eq.mp (congrArg (fun w => va_D A w) (stM_iM6 ad cy iM aM [(4, v1), (5, (0 : Int32)), (6, (0 : Int32))] (((aM 0) v1.toNatClampNeg)))) hD
          refine lv_aload_n hx hb dX8_next_190 rfl (lv_at hl 0 rfl) ?_
          refine lv_aload_n hx hb dX8_next_191 rfl (lv_at hl 0 rfl) ?_
          refine va_get (D := (dC, dI)) (ci := 8) (v := .int (((aM 0) v1.toNatClampNeg))) (C := RX8) (T := TX8) (N := 78) hx hb hts ki8 hown hK hP 0 rfl rfl 6 (by decide) kf175 (fun _ h9 => h9) rfl dX8_next_192 ?_
          refine lv_bipush (v := 60) hx hb dX8_next_195 (by decide) ?_
          refine lv_icmp_eq (tgt := 236) hx hb dX8_next_197 (by decide) (fun cz => ?_) (fun cz => ?_)
          · have h := g_t h cz
            refine lv_iconst (v := 2) hx hb dX8_next_236 (by decide) ?_
            refine lv_goto (tgt := 241) hx hb dX8_next_237 (by decide) ?_
            exact B241 v1 ((2 : Int32)) v1 ((0 : Int32)) (((aM 0) v1.toNatClampNeg)) H locs ls h hP hD hS (lv_sub hl [0, 1] rfl)
          · have h := g_f h cz
            refine lv_aload_n hx hb dX8_next_200 rfl (lv_at hl 0 rfl) ?_
            refine va_get (D := (dC, dI)) (ci := 8) (v := .int (((aM 0) v1.toNatClampNeg))) (C := RX8) (T := TX8) (N := 78) hx hb hts ki8 hown hK hP 0 rfl rfl 6 (by decide) kf175 (fun _ h9 => h9) rfl dX8_next_201 ?_
            refine lv_bipush (v := 61) hx hb dX8_next_204 (by decide) ?_
            refine lv_icmp_eq (tgt := 236) hx hb dX8_next_206 (by decide) (fun cz => ?_) (fun cz => ?_)
            · have h := g_t h cz
              refine lv_iconst (v := 2) hx hb dX8_next_236 (by decide) ?_
              refine lv_goto (tgt := 241) hx hb dX8_next_237 (by decide) ?_
              exact B241 v1 ((2 : Int32)) v1 ((0 : Int32)) (((aM 0) v1.toNatClampNeg)) H locs ls h hP hD hS (lv_sub hl [0, 1] rfl)
            · have h := g_f h cz
              refine lv_aload_n hx hb dX8_next_209 rfl (lv_at hl 0 rfl) ?_
              refine va_get (D := (dC, dI)) (ci := 8) (v := .int (((aM 0) v1.toNatClampNeg))) (C := RX8) (T := TX8) (N := 78) hx hb hts ki8 hown hK hP 0 rfl rfl 6 (by decide) kf175 (fun _ h9 => h9) rfl dX8_next_210 ?_
              refine lv_bipush (v := 59) hx hb dX8_next_213 (by decide) ?_
              refine lv_icmp_eq (tgt := 236) hx hb dX8_next_215 (by decide) (fun cz => ?_) (fun cz => ?_)
              · have h := g_t h cz
                refine lv_iconst (v := 2) hx hb dX8_next_236 (by decide) ?_
                refine lv_goto (tgt := 241) hx hb dX8_next_237 (by decide) ?_
                exact B241 v1 ((2 : Int32)) v1 ((0 : Int32)) (((aM 0) v1.toNatClampNeg)) H locs ls h hP hD hS (lv_sub hl [0, 1] rfl)
              · have h := g_f h cz
                refine lv_aload_n hx hb dX8_next_218 rfl (lv_at hl 0 rfl) ?_
                refine va_get (D := (dC, dI)) (ci := 8) (v := .int (((aM 0) v1.toNatClampNeg))) (C := RX8) (T := TX8) (N := 78) hx hb hts ki8 hown hK hP 0 rfl rfl 6 (by decide) kf175 (fun _ h9 => h9) rfl dX8_next_219 ?_
                refine lv_bipush (v := 40) hx hb dX8_next_222 (by decide) ?_
                refine lv_icmp_eq (tgt := 236) hx hb dX8_next_224 (by decide) (fun cz => ?_) (fun cz => ?_)
                · have h := g_t h cz
                  refine lv_iconst (v := 2) hx hb dX8_next_236 (by decide) ?_
                  refine lv_goto (tgt := 241) hx hb dX8_next_237 (by decide) ?_
                  exact B241 v1 ((2 : Int32)) v1 ((0 : Int32)) (((aM 0) v1.toNatClampNeg)) H locs ls h hP hD hS (lv_sub hl [0, 1] rfl)
                · have h := g_f h cz
                  refine lv_aload_n hx hb dX8_next_227 rfl (lv_at hl 0 rfl) ?_
                  refine va_get (D := (dC, dI)) (ci := 8) (v := .int (((aM 0) v1.toNatClampNeg))) (C := RX8) (T := TX8) (N := 78) hx hb hts ki8 hown hK hP 0 rfl rfl 6 (by decide) kf175 (fun _ h9 => h9) rfl dX8_next_228 ?_
                  refine lv_bipush (v := 41) hx hb dX8_next_231 (by decide) ?_
                  refine lv_icmp_ne (tgt := 240) hx hb dX8_next_233 (by decide) (fun cz => ?_) (fun cz => ?_)
                  · have h := g_f h cz
                    refine lv_iconst (v := 3) hx hb dX8_next_240 (by decide) ?_
                    exact B241 v1 ((3 : Int32)) v1 ((0 : Int32)) (((aM 0) v1.toNatClampNeg)) H locs ls h hP hD hS (lv_sub hl [0, 1] rfl)
                  · have h := g_t h cz
                    refine lv_iconst (v := 2) hx hb dX8_next_236 (by decide) ?_
                    refine lv_goto (tgt := 241) hx hb dX8_next_237 (by decide) ?_
                    exact B241 v1 ((2 : Int32)) v1 ((0 : Int32)) (((aM 0) v1.toNatClampNeg)) H locs ls h hP hD hS (lv_sub hl [0, 1] rfl)
        · have h := g_f h cz
          exact B96 N v1 ((0 : Int32)) ((0 : Int32)) v1 H locs ls h hP hD hS (lv_sub hl [0, 1] rfl)
    · have h := g_t h cz
      refine lv_aload_n hx hb dX8_next_64 rfl (lv_at hl 0 rfl) ?_
      refine lv_iconst (v := 0) hx hb dX8_next_65 (by decide) ?_
      refine va_put (D := (dC, dI)) (ci := 8) (v := .int ((0 : Int32))) (ty := .int) (C := RX8) (T := TX8) (N := 78) hx hb hts ki8 tyX8 tyX8_ok nmX8 hown hK hP hD hS 0 rfl rfl 3 (by decide) kf178 (fun _ h9 => h9) rfl (by decide +kernel) rfl rfl (Nat.le_of_ble_eq_true rfl) dX8_next_66 (fun H locs hP hD hS => ?_)
      have hP : va_P (dC, dI) vwCl (zzM ad cy (us iM [(3, (0 : Int32)), (4, v1), (5, (0 : Int32)), (6, (0 : Int32))]) aM) H := Eq.mp (congrArg (fun w => va_P (dC, dI) vwCl w H) (stM_iM3 ad cy iM aM [(4, v1), (5, (0 : Int32)), (6, (0 : Int32))] ((0 : Int32)))) hP
      have hD : va_D A (zzM ad cy (us iM [(3, (0 : Int32)), (4, v1), (5, (0 : Int32)), (6, (0 : Int32))]) aM) := Eq.mp (congrArg (fun w => va_D A w) (stM_iM3 ad cy iM aM [(4, v1), (5, (0 : Int32)), (6, (0 : Int32))] ((0 : Int32)))) hD
      refine lv_goto (tgt := 247) hx hb dX8_next_69 (by decide) ?_
      exact B247 v1 ((0 : Int32)) v1 ((0 : Int32)) ((0 : Int32)) H locs ls h hP hD hS (lv_sub hl [0, 1] rfl)
  have B5 : ∀ (n : Nat) (v1 : Int32) (H : Heap) (locs : List Loc) (ls : Array Slot), f_M_next_5 N (iM 1) (iM 2) (iM 3) (iM 4) (iM 5) (iM 6) (aM 0) n v1 = some q → va_P (dC, dI) vwCl (zzM ad cy iM aM) H → va_D A (zzM ad cy iM aM) → va_S A s.heap H locs → lv_has ls 2 [(0, .ref (ad 0)), (1, .int v1)] → W p l e ({ frames := 2, cells := 0, slots := 0, locals := 45 } : Room) s m args below meth c H locs 0 0 QQ (F0 m 5 ls []) := by
    intro n
    induction n with
    | zero =>
      intro v1 H locs ls h hP hD hS hl
      rw [f_M_next_5] at h
      cases h
    | succ n ih =>
      intro v1 H locs ls h hP hD hS hl
      rw [f_M_next_5] at h
      refine lv_iload_n hx hb dX8_next_5 rfl (lv_at hl 1 rfl) ?_
      refine lv_aload_n hx hb dX8_next_6 rfl (lv_at hl 0 rfl) ?_
      refine va_get (D := (dC, dI)) (ci := 8) (v := .int (iM 1)) (C := RX8) (T := TX8) (N := 78) hx hb hts ki8 hown hK hP 0 rfl rfl 1 (by decide) kf147 (fun _ h9 => h9) rfl dX8_next_7 ?_
      refine lv_icmp_ge (tgt := 41) hx hb dX8_next_10 (by decide) (fun cz => ?_) (fun cz => ?_)
      · have h := g_t h cz
        exact B41 v1 H locs ls h hP hD hS (lv_sub hl [0, 1] rfl)
      · have h := g_f h cz
        refine lv_aload_n hx hb dX8_next_13 rfl (lv_at hl 0 rfl) ?_
        refine va_get (D := (dC, dI)) (ci := 8) (v := .ref (ad 1)) (C := RX8) (T := TX8) (N := 78) hx hb hts ki8 hown hK hP 0 rfl rfl 0 (by decide) kf7 (fun _ h9 => h9) rfl dX8_next_14 ?_
        refine lv_iload_n hx hb dX8_next_17 rfl (lv_at hl 1 rfl) ?_
        obtain ⟨g_49, h⟩ := g_n h
        refine va_bald (f := (aM 0)) hx hb hK hP 1 1 rfl rfl g_49 dX8_next_18 ?_
        refine lv_bipush (v := 32) hx hb dX8_next_19 (by decide) ?_
        refine lv_icmp_eq (tgt := 35) hx hb dX8_next_21 (by decide) (fun cz => ?_) (fun cz => ?_)
        · have h := g_t h cz
          refine lv_iinc (v := (v1 + (1 : Int32))) (lv' := [(1, .int ((v1 + (1 : Int32)))), (0, .ref (ad 0))]) hx hb dX8_next_35 hl (k := 1) rfl rfl (by decide) rfl (fun ls hl => ?_)
          refine lv_goto (tgt := 5) hx hb dX8_next_38 (by decide) ?_
          exact ih ((v1 + (1 : Int32))) H locs ls h hP hD hS (lv_sub hl [1, 0] rfl)
        · have h := g_f h cz
          refine lv_aload_n hx hb dX8_next_24 rfl (lv_at hl 0 rfl) ?_
          refine va_get (D := (dC, dI)) (ci := 8) (v := .ref (ad 1)) (C := RX8) (T := TX8) (N := 78) hx hb hts ki8 hown hK hP 0 rfl rfl 0 (by decide) kf7 (fun _ h9 => h9) rfl dX8_next_25 ?_
          refine lv_iload_n hx hb dX8_next_28 rfl (lv_at hl 1 rfl) ?_
          refine va_bald (f := (aM 0)) hx hb hK hP 1 1 rfl rfl g_49 dX8_next_29 ?_
          refine lv_bipush (v := 10) hx hb dX8_next_30 (by decide) ?_
          refine lv_icmp_ne (tgt := 41) hx hb dX8_next_32 (by decide) (fun cz => ?_) (fun cz => ?_)
          · have h := g_f h cz
            exact B41 v1 H locs ls h hP hD hS (lv_sub hl [0, 1] rfl)
          · have h := g_t h cz
            refine lv_iinc (v := (v1 + (1 : Int32))) (lv' := [(1, .int ((v1 + (1 : Int32)))), (0, .ref (ad 0))]) hx hb dX8_next_35 hl (k := 1) rfl rfl (by decide) rfl (fun ls hl => ?_)
            refine lv_goto (tgt := 5) hx hb dX8_next_38 (by decide) ?_
            exact ih ((v1 + (1 : Int32))) H locs ls h hP hD hS (lv_sub hl [1, 0] rfl)
  intro H locs hP hD hS
  unfold f_M_next at h
  refine lv_aload_n hx hb dX8_next_0 rfl (lv_at hl 0 rfl) ?_
  refine va_get (D := (dC, dI)) (ci := 8) (v := .int (iM 2)) (C := RX8) (T := TX8) (N := 78) hx hb hts ki8 hown hK hP 0 rfl rfl 2 (by decide) kf166 (fun _ h9 => h9) rfl dX8_next_1 ?_
  refine lv_istore_n (lv' := [(1, .int (iM 2)), (0, .ref (ad 0))]) hx hb dX8_next_4 rfl hl (by decide) rfl (fun ls hl => ?_)
  exact B5 N (iM 2) H locs ls h hP hD hS (lv_sub hl [1, 0] rfl)
set_option maxHeartbeats 8000000 in
set_option maxRecDepth 100000 in
theorem c_M_kept (l : Launch) (dC : Nat → ClassId) (dI : Nat → Nat → Nat) (cy : Nat → ClassId) (ad : Nat → Nat) (sz : Nat) (N : Nat) (iM : Nat → Int32) (aM : Nat → Nat → Int32) (q : Int32) (h : f_M_kept N (iM 3) (iM 4) (iM 5) (aM 0) (aM 7) = some q) : Met l yX8_kept wsX8_kept ({ frames := 0, cells := 0, slots := 0, locals := 0 } : Room) (cP (dC, dI) cy [.ref (ad 0)] (zzM ad cy iM aM) sz) (cQi (dC, dI) cy q (zzM ad cy iM aM) (va_A (zzM ad cy iM aM) sz)) 0 0 (va_A (zzM ad cy iM aM) sz) := by
  refine Met.ofW (cc := cX8_kept) (maxL := 6) (ret := (some .int)) (by decide) rfl ?_
  intro p e s m args below meth c s₁ B hml hv
  obtain ⟨hav, hsz, hP, hK, hD0, hN⟩ := hv
  have hx := B.exec
  have hb := B.bytes
  have hr := B.returns
  have hts := atoms_spec (ws := wsX8_kept) B.pre
  have hown : s.vm.findClass RX8 = some m.cls := findClass_of_methodNamed B.named
  have hlocks := B.notSynchronized
  subst hsz
  have hD := hD0.self (sz := s.heap.size)
  generalize hAe : va_A (zzM ad cy iM aM) s.heap.size = A at hD ⊢
  have hA : ∀ q : Nat, s.heap.size ≤ q → A q := fun q h => by rw [← hAe]; exact Or.inr h
  have hS : va_S A s.heap s.heap [] := va_S.rf
  generalize hWQ : (zzM ad cy iM aM) = WQ
  generalize hQQ : MQ below (cQi (dC, dI) cy q WQ A) args s 0 0 A = QQ
  have hl := lv_entry ([.ref (ad 0)] : List Value) (n := 6) (Nat.le_of_ble_eq_true rfl)
  have hfr := lg_entry_eq m ([.ref (ad 0)] : List Value) 6
  rw [← hav] at hfr
  rw [hfr]
  clear hfr hav
  generalize (lg_sl ([.ref (ad 0)] : List Value) ++ List.replicate (6 - (lg_sl ([.ref (ad 0)] : List Value)).length) Slot.unset).toArray = ls at hl ⊢
  have hl : lv_has ls 6 [(0, .ref (ad 0))] := hl
  have kf172 := hts _ (List.mem_cons_of_mem _ m_fl_X8_172)
  have ki8 := (fun w h => List.mem_cons_of_mem _ (i_X8 w h) : ∀ w ∈ u_ws RX8 TX8 78, w ∈ wsX8_kept)
  have kf7 := hts _ (List.mem_cons_of_mem _ m_fl_X8_7)
  have kf169 := hts _ (List.mem_cons_of_mem _ m_fl_X8_169)
  have kf13 := hts _ (List.mem_cons_of_mem _ m_fl_X8_13)
  have kf178 := hts _ (List.mem_cons_of_mem _ m_fl_X8_178)
  refine (?_ : ∀ (H : Heap) (locs : List Loc), va_P (dC, dI) vwCl (zzM ad cy iM aM) H → va_D A (zzM ad cy iM aM) → va_S A s.heap H locs → W p l e ({ frames := 0, cells := 0, slots := 0, locals := 0 } : Room) s m args below meth c H locs 0 0 QQ (F0 m 0 ls [])) s.heap [] hP hD hS
  clear hP hD hS
  have B102 : ∀ (v1 : Int32) (v3 : Int32) (v4 : Int32) (k6 : Int32 → Int32 → Int32 → Option Int32) (hk6 : ∀ (v1' : Int32) (v2' : Int32) (v3' : Int32) (H : Heap) (locs : List Loc) (ls : Array Slot), k6 v1' v2' v3' = some q → va_P (dC, dI) vwCl (zzM ad cy iM aM) H → va_D A (zzM ad cy iM aM) → va_S A s.heap H locs → lv_has ls 6 [(0, .ref (ad 0)), (1, .int v1'), (2, .int v2'), (3, .int v3')] → W p l e ({ frames := 0, cells := 0, slots := 0, locals := 0 } : Room) s m args below meth c H locs 0 0 QQ (F0 m 6 ls [])) (H : Heap) (locs : List Loc) (ls : Array Slot), f_M_kept_102 N (iM 3) (iM 4) (iM 5) (aM 0) (aM 7) k6 v1 v3 v4 = some q → va_P (dC, dI) vwCl (zzM ad cy iM aM) H → va_D A (zzM ad cy iM aM) → va_S A s.heap H locs → lv_has ls 6 [(0, .ref (ad 0)), (1, .int v1), (3, .int v3), (4, .int v4)] → W p l e ({ frames := 0, cells := 0, slots := 0, locals := 0 } : Room) s m args below meth c H locs 0 0 QQ (F0 m 102 ls []) := by
    intro v1 v3 v4 k6 hk6 H locs ls h hP hD hS hl
    unfold f_M_kept_102 at h
    refine lv_iload hx hb dX8_kept_102 (lv_at hl 3 rfl) ?_
    refine lv_if_eq (tgt := 109) hx hb dX8_kept_104 (by decide) (fun cz => ?_) (fun cz => ?_)
    · have h := g_t h cz
      refine lv_iinc (v := (v1 + (1 : Int32))) (lv' := [(1, .int ((v1 + (1 : Int32)))), (0, .ref (ad 0)), (3, .int v3), (4, .int v4)]) hx hb dX8_kept_109 hl (k := 1) rfl rfl (by decide) rfl (fun ls hl => ?_)
      refine lv_iload_n hx hb dX8_kept_112 rfl (lv_at hl 2 rfl) ?_
      refine lv_iconst (v := 1) hx hb dX8_kept_113 (by decide) ?_
      refine lv_iadd hx hb dX8_kept_114 ?_
      refine lv_istore_n (lv' := [(2, .int ((v3 + (1 : Int32)))), (1, .int ((v1 + (1 : Int32)))), (0, .ref (ad 0)), (3, .int v3), (4, .int v4)]) hx hb dX8_kept_115 rfl hl (by decide) rfl (fun ls hl => ?_)
      refine lv_iinc (v := (v3 + (1 : Int32))) (lv' := [(3, .int ((v3 + (1 : Int32)))), (2, .int ((v3 + (1 : Int32)))), (1, .int ((v1 + (1 : Int32)))), (0, .ref (ad 0)), (4, .int v4)]) hx hb dX8_kept_116 hl (k := 3) rfl rfl (by decide) rfl (fun ls hl => ?_)
      refine lv_goto (tgt := 6) hx hb dX8_kept_119 (by decide) ?_
      exact hk6 ((v1 + (1 : Int32))) ((v3 + (1 : Int32))) ((v3 + (1 : Int32))) H locs ls h hP hD hS (lv_sub hl [3, 2, 1, 0] rfl)
    · have h := g_f h cz
      refine lv_iload_n hx hb dX8_kept_107 rfl (lv_at hl 1 rfl) ?_
      have h' := Option.some.inj h
      rw [← hQQ]
      exact W.iret (v := v1) hx hb hr (fun t ht hW => ⟨⟨v1, (), rfl, by rw [← h'], by rw [← hWQ, ht]; exact hP, va_K.moved hW.alike hK⟩, hS.F ht⟩) hS.2.2 dX8_kept_108
  have B51 : ∀ (n : Nat) (v1 : Int32) (v2 : Int32) (v3 : Int32) (k6 : Int32 → Int32 → Int32 → Option Int32) (hk6 : ∀ (v1' : Int32) (v2' : Int32) (v3' : Int32) (H : Heap) (locs : List Loc) (ls : Array Slot), k6 v1' v2' v3' = some q → va_P (dC, dI) vwCl (zzM ad cy iM aM) H → va_D A (zzM ad cy iM aM) → va_S A s.heap H locs → lv_has ls 6 [(0, .ref (ad 0)), (1, .int v1'), (2, .int v2'), (3, .int v3')] → W p l e ({ frames := 0, cells := 0, slots := 0, locals := 0 } : Room) s m args below meth c H locs 0 0 QQ (F0 m 6 ls [])) (v4 : Int32) (v5 : Int32) (H : Heap) (locs : List Loc) (ls : Array Slot), f_M_kept_51 N (iM 3) (iM 4) (iM 5) (aM 0) (aM 7) k6 v1 v2 v3 n v4 v5 = some q → va_P (dC, dI) vwCl (zzM ad cy iM aM) H → va_D A (zzM ad cy iM aM) → va_S A s.heap H locs → lv_has ls 6 [(0, .ref (ad 0)), (1, .int v1), (2, .int v2), (3, .int v3), (4, .int v4), (5, .int v5)] → W p l e ({ frames := 0, cells := 0, slots := 0, locals := 0 } : Room) s m args below meth c H locs 0 0 QQ (F0 m 51 ls []) := by
    intro n
    induction n with
    | zero =>
      intro v1 v2 v3 k6 hk6 v4 v5 H locs ls h hP hD hS hl
      rw [f_M_kept_51] at h
      cases h
    | succ n ih =>
      intro v1 v2 v3 k6 hk6 v4 v5 H locs ls h hP hD hS hl
      rw [f_M_kept_51] at h
      refine lv_iload hx hb dX8_kept_51 (lv_at hl 5 rfl) ?_
      refine lv_aload_n hx hb dX8_kept_53 rfl (lv_at hl 0 rfl) ?_
      refine va_get (D := (dC, dI)) (ci := 8) (v := .int (iM 5)) (C := RX8) (T := TX8) (N := 78) hx hb hts ki8 hown hK hP 0 rfl rfl 5 (by decide) kf172 (fun _ h9 => h9) rfl dX8_kept_54 ?_
      refine lv_icmp_ge (tgt := 102) hx hb dX8_kept_57 (by decide) (fun cz => ?_) (fun cz => ?_)
      · have h := g_t h cz
        exact B102 v1 v3 v4 k6 hk6 H locs ls h hP hD hS (lv_sub hl [0, 1, 3, 4] rfl)
      · have h := g_f h cz
        refine lv_iload hx hb dX8_kept_60 (lv_at hl 4 rfl) ?_
        refine lv_if_eq (tgt := 102) hx hb dX8_kept_62 (by decide) (fun cz => ?_) (fun cz => ?_)
        · have h := g_t h cz
          exact B102 v1 v3 v4 k6 hk6 H locs ls h hP hD hS (lv_sub hl [0, 1, 3, 4] rfl)
        · have h := g_f h cz
          refine lv_aload_n hx hb dX8_kept_65 rfl (lv_at hl 0 rfl) ?_
          refine va_get (D := (dC, dI)) (ci := 8) (v := .ref (ad 1)) (C := RX8) (T := TX8) (N := 78) hx hb hts ki8 hown hK hP 0 rfl rfl 0 (by decide) kf7 (fun _ h9 => h9) rfl dX8_kept_66 ?_
          refine lv_aload_n hx hb dX8_kept_69 rfl (lv_at hl 0 rfl) ?_
          refine va_get (D := (dC, dI)) (ci := 8) (v := .int (iM 4)) (C := RX8) (T := TX8) (N := 78) hx hb hts ki8 hown hK hP 0 rfl rfl 4 (by decide) kf169 (fun _ h9 => h9) rfl dX8_kept_70 ?_
          refine lv_iload hx hb dX8_kept_73 (lv_at hl 5 rfl) ?_
          refine lv_iadd hx hb dX8_kept_75 ?_
          obtain ⟨g_50, h⟩ := g_n h
          refine va_bald (f := (aM 0)) hx hb hK hP 1 1 rfl rfl g_50 dX8_kept_76 ?_
          refine lv_aload_n hx hb dX8_kept_77 rfl (lv_at hl 0 rfl) ?_
          refine va_get (D := (dC, dI)) (ci := 8) (v := .ref (ad 2)) (C := RX8) (T := TX8) (N := 78) hx hb hts ki8 hown hK hP 0 rfl rfl 7 (by decide) kf13 (fun _ h9 => h9) rfl dX8_kept_78 ?_
          refine lv_iload_n hx hb dX8_kept_81 rfl (lv_at hl 2 rfl) ?_
          refine lv_iload hx hb dX8_kept_82 (lv_at hl 5 rfl) ?_
          refine lv_iadd hx hb dX8_kept_84 ?_
          obtain ⟨g_51, h⟩ := g_n h
          refine va_cald (f := (aM 7)) hx hb hK hP 2 5 rfl rfl g_51 dX8_kept_85 ?_
          refine lv_icmp_ne (tgt := 93) hx hb dX8_kept_86 (by decide) (fun cz => ?_) (fun cz => ?_)
          · have h := g_f h cz
            refine lv_iconst (v := 0) hx hb dX8_kept_93 (by decide) ?_
            refine lv_istore (lv' := [(4, .int ((0 : Int32))), (0, .ref (ad 0)), (1, .int v1), (2, .int v2), (3, .int v3), (5, .int v5)]) hx hb dX8_kept_94 hl (by decide) rfl (fun ls hl => ?_)
            refine lv_iinc (v := (v5 + (1 : Int32))) (lv' := [(5, .int ((v5 + (1 : Int32)))), (4, .int ((0 : Int32))), (0, .ref (ad 0)), (1, .int v1), (2, .int v2), (3, .int v3)]) hx hb dX8_kept_96 hl (k := 5) rfl rfl (by decide) rfl (fun ls hl => ?_)
            refine lv_goto (tgt := 51) hx hb dX8_kept_99 (by decide) ?_
            exact ih v1 v2 v3 k6 hk6 ((0 : Int32)) ((v5 + (1 : Int32))) H locs ls h hP hD hS (lv_sub hl [2, 3, 4, 5, 1, 0] rfl)
          · have h := g_t h cz
            refine lv_iconst (v := 1) hx hb dX8_kept_89 (by decide) ?_
            refine lv_goto (tgt := 94) hx hb dX8_kept_90 (by decide) ?_
            refine lv_istore (lv' := [(4, .int ((1 : Int32))), (0, .ref (ad 0)), (1, .int v1), (2, .int v2), (3, .int v3), (5, .int v5)]) hx hb dX8_kept_94 hl (by decide) rfl (fun ls hl => ?_)
            refine lv_iinc (v := (v5 + (1 : Int32))) (lv' := [(5, .int ((v5 + (1 : Int32)))), (4, .int ((1 : Int32))), (0, .ref (ad 0)), (1, .int v1), (2, .int v2), (3, .int v3)]) hx hb dX8_kept_96 hl (k := 5) rfl rfl (by decide) rfl (fun ls hl => ?_)
            refine lv_goto (tgt := 51) hx hb dX8_kept_99 (by decide) ?_
            exact ih v1 v2 v3 k6 hk6 ((1 : Int32)) ((v5 + (1 : Int32))) H locs ls h hP hD hS (lv_sub hl [2, 3, 4, 5, 1, 0] rfl)
  have B6 : ∀ (n : Nat) (v1 : Int32) (v2 : Int32) (v3 : Int32) (H : Heap) (locs : List Loc) (ls : Array Slot), f_M_kept_6 N (iM 3) (iM 4) (iM 5) (aM 0) (aM 7) n v1 v2 v3 = some q → va_P (dC, dI) vwCl (zzM ad cy iM aM) H → va_D A (zzM ad cy iM aM) → va_S A s.heap H locs → lv_has ls 6 [(0, .ref (ad 0)), (1, .int v1), (2, .int v2), (3, .int v3)] → W p l e ({ frames := 0, cells := 0, slots := 0, locals := 0 } : Room) s m args below meth c H locs 0 0 QQ (F0 m 6 ls []) := by
    intro n
    induction n with
    | zero =>
      intro v1 v2 v3 H locs ls h hP hD hS hl
      rw [f_M_kept_6] at h
      cases h
    | succ n ih =>
      intro v1 v2 v3 H locs ls h hP hD hS hl
      rw [f_M_kept_6] at h
      refine lv_iload_n hx hb dX8_kept_6 rfl (lv_at hl 3 rfl) ?_
      refine lv_bipush (v := 50) hx hb dX8_kept_7 (by decide) ?_
      refine lv_icmp_ge (tgt := 122) hx hb dX8_kept_9 (by decide) (fun cz => ?_) (fun cz => ?_)
      · have h := g_t h cz
        refine lv_iconst (v := (-1)) hx hb dX8_kept_122 (by decide) ?_
        have h' := Option.some.inj h
        rw [← hQQ]
        exact W.iret (v := (-1 : Int32)) hx hb hr (fun t ht hW => ⟨⟨(-1 : Int32), (), rfl, by rw [← h'], by rw [← hWQ, ht]; exact hP, va_K.moved hW.alike hK⟩, hS.F ht⟩) hS.2.2 dX8_kept_123
      · have h := g_f h cz
        refine lv_aload_n hx hb dX8_kept_12 rfl (lv_at hl 0 rfl) ?_
        refine va_get (D := (dC, dI)) (ci := 8) (v := .ref (ad 2)) (C := RX8) (T := TX8) (N := 78) hx hb hts ki8 hown hK hP 0 rfl rfl 7 (by decide) kf13 (fun _ h9 => h9) rfl dX8_kept_13 ?_
        refine lv_iload_n hx hb dX8_kept_16 rfl (lv_at hl 3 rfl) ?_
        obtain ⟨g_52, h⟩ := g_n h
        refine va_cald (f := (aM 7)) hx hb hK hP 2 5 rfl rfl g_52 dX8_kept_17 ?_
        refine lv_bipush (v := 32) hx hb dX8_kept_18 (by decide) ?_
        refine lv_icmp_ne (tgt := 116) hx hb dX8_kept_20 (by decide) (fun cz => ?_) (fun cz => ?_)
        · have h := g_f h cz
          refine lv_iinc (v := (v3 + (1 : Int32))) (lv' := [(3, .int ((v3 + (1 : Int32)))), (0, .ref (ad 0)), (1, .int v1), (2, .int v2)]) hx hb dX8_kept_116 hl (k := 3) rfl rfl (by decide) rfl (fun ls hl => ?_)
          refine lv_goto (tgt := 6) hx hb dX8_kept_119 (by decide) ?_
          exact ih v1 v2 ((v3 + (1 : Int32))) H locs ls h hP hD hS (lv_sub hl [1, 2, 3, 0] rfl)
        · have h := g_t h cz
          refine lv_aload_n hx hb dX8_kept_23 rfl (lv_at hl 0 rfl) ?_
          refine va_get (D := (dC, dI)) (ci := 8) (v := .int (iM 3)) (C := RX8) (T := TX8) (N := 78) hx hb hts ki8 hown hK hP 0 rfl rfl 3 (by decide) kf178 (fun _ h9 => h9) rfl dX8_kept_24 ?_
          refine lv_iconst (v := 1) hx hb dX8_kept_27 (by decide) ?_
          refine lv_icmp_ne (tgt := 45) hx hb dX8_kept_28 (by decide) (fun cz => ?_) (fun cz => ?_)
          · have h := g_f h cz
            refine lv_iconst (v := 0) hx hb dX8_kept_45 (by decide) ?_
            refine lv_istore (lv' := [(4, .int ((0 : Int32))), (0, .ref (ad 0)), (1, .int v1), (2, .int v2), (3, .int v3)]) hx hb dX8_kept_46 hl (by decide) rfl (fun ls hl => ?_)
            refine lv_iconst (v := 0) hx hb dX8_kept_48 (by decide) ?_
            refine lv_istore (lv' := [(5, .int ((0 : Int32))), (4, .int ((0 : Int32))), (0, .ref (ad 0)), (1, .int v1), (2, .int v2), (3, .int v3)]) hx hb dX8_kept_49 hl (by decide) rfl (fun ls hl => ?_)
            exact B51 N v1 v2 v3 (f_M_kept_6 N (iM 3) (iM 4) (iM 5) (aM 0) (aM 7) n) ih ((0 : Int32)) ((0 : Int32)) H locs ls h hP hD hS (lv_sub hl [2, 3, 4, 5, 1, 0] rfl)
          · have h := g_t h cz
            refine lv_iload_n hx hb dX8_kept_31 rfl (lv_at hl 3 rfl) ?_
            refine lv_iload_n hx hb dX8_kept_32 rfl (lv_at hl 2 rfl) ?_
            refine lv_isub hx hb dX8_kept_33 ?_
            refine lv_aload_n hx hb dX8_kept_34 rfl (lv_at hl 0 rfl) ?_
            refine va_get (D := (dC, dI)) (ci := 8) (v := .int (iM 5)) (C := RX8) (T := TX8) (N := 78) hx hb hts ki8 hown hK hP 0 rfl rfl 5 (by decide) kf172 (fun _ h9 => h9) rfl dX8_kept_35 ?_
            refine lv_icmp_ne (tgt := 45) hx hb dX8_kept_38 (by decide) (fun cz => ?_) (fun cz => ?_)
            · have h := g_f h cz
              refine lv_iconst (v := 0) hx hb dX8_kept_45 (by decide) ?_
              refine lv_istore (lv' := [(4, .int ((0 : Int32))), (0, .ref (ad 0)), (1, .int v1), (2, .int v2), (3, .int v3)]) hx hb dX8_kept_46 hl (by decide) rfl (fun ls hl => ?_)
              refine lv_iconst (v := 0) hx hb dX8_kept_48 (by decide) ?_
              refine lv_istore (lv' := [(5, .int ((0 : Int32))), (4, .int ((0 : Int32))), (0, .ref (ad 0)), (1, .int v1), (2, .int v2), (3, .int v3)]) hx hb dX8_kept_49 hl (by decide) rfl (fun ls hl => ?_)
              exact B51 N v1 v2 v3 (f_M_kept_6 N (iM 3) (iM 4) (iM 5) (aM 0) (aM 7) n) ih ((0 : Int32)) ((0 : Int32)) H locs ls h hP hD hS (lv_sub hl [2, 3, 4, 5, 1, 0] rfl)
            · have h := g_t h cz
              refine lv_iconst (v := 1) hx hb dX8_kept_41 (by decide) ?_
              refine lv_goto (tgt := 46) hx hb dX8_kept_42 (by decide) ?_
              refine lv_istore (lv' := [(4, .int ((1 : Int32))), (0, .ref (ad 0)), (1, .int v1), (2, .int v2), (3, .int v3)]) hx hb dX8_kept_46 hl (by decide) rfl (fun ls hl => ?_)
              refine lv_iconst (v := 0) hx hb dX8_kept_48 (by decide) ?_
              refine lv_istore (lv' := [(5, .int ((0 : Int32))), (4, .int ((1 : Int32))), (0, .ref (ad 0)), (1, .int v1), (2, .int v2), (3, .int v3)]) hx hb dX8_kept_49 hl (by decide) rfl (fun ls hl => ?_)
              exact B51 N v1 v2 v3 (f_M_kept_6 N (iM 3) (iM 4) (iM 5) (aM 0) (aM 7) n) ih ((1 : Int32)) ((0 : Int32)) H locs ls h hP hD hS (lv_sub hl [2, 3, 4, 5, 1, 0] rfl)
  intro H locs hP hD hS
  unfold f_M_kept at h
  refine lv_iconst (v := 0) hx hb dX8_kept_0 (by decide) ?_
  refine lv_istore_n (lv' := [(1, .int ((0 : Int32))), (0, .ref (ad 0))]) hx hb dX8_kept_1 rfl hl (by decide) rfl (fun ls hl => ?_)
  refine lv_iconst (v := 0) hx hb dX8_kept_2 (by decide) ?_
  refine lv_istore_n (lv' := [(2, .int ((0 : Int32))), (1, .int ((0 : Int32))), (0, .ref (ad 0))]) hx hb dX8_kept_3 rfl hl (by decide) rfl (fun ls hl => ?_)
  refine lv_iconst (v := 0) hx hb dX8_kept_4 (by decide) ?_
  refine lv_istore_n (lv' := [(3, .int ((0 : Int32))), (2, .int ((0 : Int32))), (1, .int ((0 : Int32))), (0, .ref (ad 0))]) hx hb dX8_kept_5 rfl hl (by decide) rfl (fun ls hl => ?_)
  exact B6 N ((0 : Int32)) ((0 : Int32)) ((0 : Int32)) H locs ls h hP hD hS (lv_sub hl [3, 2, 1, 0] rfl)
set_option maxHeartbeats 8000000 in
set_option maxRecDepth 100000 in
theorem c_M_isSignHere (l : Launch) (dC : Nat → ClassId) (dI : Nat → Nat → Nat) (cy : Nat → ClassId) (ad : Nat → Nat) (sz : Nat) (a1 : Int32) (iM : Nat → Int32) (aM : Nat → Nat → Int32) (q : Int32) (h : f_M_isSignHere a1 (iM 3) (iM 6) = some q) : Met l yX8_isSignHere wsX8_isSignHere ({ frames := 0, cells := 0, slots := 0, locals := 0 } : Room) (cP (dC, dI) cy [.ref (ad 0), .int a1] (zzM ad cy iM aM) sz) (cQi (dC, dI) cy q (zzM ad cy iM aM) (va_A (zzM ad cy iM aM) sz)) 0 0 (va_A (zzM ad cy iM aM) sz) := by
  refine Met.ofW (cc := cX8_isSignHere) (maxL := 2) (ret := (some .boolean)) (by decide) rfl ?_
  intro p e s m args below meth c s₁ B hml hv
  obtain ⟨hav, hsz, hP, hK, hD0, hN⟩ := hv
  have hx := B.exec
  have hb := B.bytes
  have hr := B.returns
  have hts := atoms_spec (ws := wsX8_isSignHere) B.pre
  have hown : s.vm.findClass RX8 = some m.cls := findClass_of_methodNamed B.named
  have hlocks := B.notSynchronized
  subst hsz
  have hD := hD0.self (sz := s.heap.size)
  generalize hAe : va_A (zzM ad cy iM aM) s.heap.size = A at hD ⊢
  have hA : ∀ q : Nat, s.heap.size ≤ q → A q := fun q h => by rw [← hAe]; exact Or.inr h
  have hS : va_S A s.heap s.heap [] := va_S.rf
  generalize hWQ : (zzM ad cy iM aM) = WQ
  generalize hQQ : MQ below (cQi (dC, dI) cy q WQ A) args s 0 0 A = QQ
  have hl := lv_entry ([.ref (ad 0), .int a1] : List Value) (n := 2) (Nat.le_of_ble_eq_true rfl)
  have hfr := lg_entry_eq m ([.ref (ad 0), .int a1] : List Value) 2
  rw [← hav] at hfr
  rw [hfr]
  clear hfr hav
  generalize (lg_sl ([.ref (ad 0), .int a1] : List Value) ++ List.replicate (2 - (lg_sl ([.ref (ad 0), .int a1] : List Value)).length) Slot.unset).toArray = ls at hl ⊢
  have hl : lv_has ls 2 [(0, .ref (ad 0)), (1, .int a1)] := hl
  have kf178 := hts _ (List.mem_cons_of_mem _ m_fl_X8_178)
  have ki8 := (fun w h => List.mem_cons_of_mem _ (i_X8 w h) : ∀ w ∈ u_ws RX8 TX8 78, w ∈ wsX8_isSignHere)
  have kf175 := hts _ (List.mem_cons_of_mem _ m_fl_X8_175)
  refine (?_ : ∀ (H : Heap) (locs : List Loc), va_P (dC, dI) vwCl (zzM ad cy iM aM) H → va_D A (zzM ad cy iM aM) → va_S A s.heap H locs → W p l e ({ frames := 0, cells := 0, slots := 0, locals := 0 } : Room) s m args below meth c H locs 0 0 QQ (F0 m 0 ls [])) s.heap [] hP hD hS
  clear hP hD hS
  intro H locs hP hD hS
  unfold f_M_isSignHere at h
  refine lv_aload_n hx hb dX8_isSignHere_0 rfl (lv_at hl 0 rfl) ?_
  refine va_get (D := (dC, dI)) (ci := 8) (v := .int (iM 3)) (C := RX8) (T := TX8) (N := 78) hx hb hts ki8 hown hK hP 0 rfl rfl 3 (by decide) kf178 (fun _ h9 => h9) rfl dX8_isSignHere_1 ?_
  refine lv_iconst (v := 2) hx hb dX8_isSignHere_4 (by decide) ?_
  refine lv_icmp_ne (tgt := 20) hx hb dX8_isSignHere_5 (by decide) (fun cz => ?_) (fun cz => ?_)
  · have h := g_f h cz
    refine lv_iconst (v := 0) hx hb dX8_isSignHere_20 (by decide) ?_
    have h' := Option.some.inj h
    rw [← hQQ]
    exact W.zret (v := (0 : Int32)) hx hb hr rfl (fun t ht hW => ⟨⟨(0 : Int32), (), rfl, by rw [← h'], by rw [← hWQ, ht]; exact hP, va_K.moved hW.alike hK⟩, hS.F ht⟩) hS.2.2 dX8_isSignHere_21
  · have h := g_t h cz
    refine lv_aload_n hx hb dX8_isSignHere_8 rfl (lv_at hl 0 rfl) ?_
    refine va_get (D := (dC, dI)) (ci := 8) (v := .int (iM 6)) (C := RX8) (T := TX8) (N := 78) hx hb hts ki8 hown hK hP 0 rfl rfl 6 (by decide) kf175 (fun _ h9 => h9) rfl dX8_isSignHere_9 ?_
    refine lv_iload_n hx hb dX8_isSignHere_12 rfl (lv_at hl 1 rfl) ?_
    refine lv_icmp_ne (tgt := 20) hx hb dX8_isSignHere_13 (by decide) (fun cz => ?_) (fun cz => ?_)
    · have h := g_f h cz
      refine lv_iconst (v := 0) hx hb dX8_isSignHere_20 (by decide) ?_
      have h' := Option.some.inj h
      rw [← hQQ]
      exact W.zret (v := (0 : Int32)) hx hb hr rfl (fun t ht hW => ⟨⟨(0 : Int32), (), rfl, by rw [← h'], by rw [← hWQ, ht]; exact hP, va_K.moved hW.alike hK⟩, hS.F ht⟩) hS.2.2 dX8_isSignHere_21
    · have h := g_t h cz
      refine lv_iconst (v := 1) hx hb dX8_isSignHere_16 (by decide) ?_
      refine lv_goto (tgt := 21) hx hb dX8_isSignHere_17 (by decide) ?_
      have h' := Option.some.inj h
      rw [← hQQ]
      exact W.zret (v := (1 : Int32)) hx hb hr rfl (fun t ht hW => ⟨⟨(1 : Int32), (), rfl, by rw [← h'], by rw [← hWQ, ht]; exact hP, va_K.moved hW.alike hK⟩, hS.F ht⟩) hS.2.2 dX8_isSignHere_21
set_option maxHeartbeats 8000000 in
set_option maxRecDepth 100000 in
theorem c_M_wrong (l : Launch) (dC : Nat → ClassId) (dI : Nat → Nat → Nat) (cy : Nat → ClassId) (ad : Nat → Nat) (sz : Nat) (a1 : Int32) (a2 : Int32) (iM : Nat → Int32) (aM : Nat → Nat → Int32) (q : Int32 × Int32) (h : f_M_wrong a1 a2 (iM 46) (iM 47) = some q) : Met l yX8_wrong wsX8_wrong ({ frames := 0, cells := 0, slots := 0, locals := 0 } : Room) (cP (dC, dI) cy [.ref (ad 0), .int a1, .int a2] (zzM ad cy iM aM) sz) (cQv (dC, dI) cy (zzM ad cy (us iM [(46, q.1), (47, q.2)]) aM) (va_A (zzM ad cy iM aM) sz)) 0 0 (va_A (zzM ad cy iM aM) sz) := by
  refine Met.ofW (cc := cX8_wrong) (maxL := 3) (ret := none) (by decide) rfl ?_
  intro p e s m args below meth c s₁ B hml hv
  obtain ⟨hav, hsz, hP, hK, hD0, hN⟩ := hv
  have hx := B.exec
  have hb := B.bytes
  have hr := B.returns
  have hts := atoms_spec (ws := wsX8_wrong) B.pre
  have hown : s.vm.findClass RX8 = some m.cls := findClass_of_methodNamed B.named
  have hlocks := B.notSynchronized
  subst hsz
  have hD := hD0.self (sz := s.heap.size)
  generalize hAe : va_A (zzM ad cy iM aM) s.heap.size = A at hD ⊢
  have hA : ∀ q : Nat, s.heap.size ≤ q → A q := fun q h => by rw [← hAe]; exact Or.inr h
  have hS : va_S A s.heap s.heap [] := va_S.rf
  generalize hWQ : (zzM ad cy (us iM [(46, q.1), (47, q.2)]) aM) = WQ
  generalize hQQ : MQ below (cQv (dC, dI) cy WQ A) args s 0 0 A = QQ
  have hl := lv_entry ([.ref (ad 0), .int a1, .int a2] : List Value) (n := 3) (Nat.le_of_ble_eq_true rfl)
  have hfr := lg_entry_eq m ([.ref (ad 0), .int a1, .int a2] : List Value) 3
  rw [← hav] at hfr
  rw [hfr]
  clear hfr hav
  generalize (lg_sl ([.ref (ad 0), .int a1, .int a2] : List Value) ++ List.replicate (3 - (lg_sl ([.ref (ad 0), .int a1, .int a2] : List Value)).length) Slot.unset).toArray = ls at hl ⊢
  have hl : lv_has ls 3 [(0, .ref (ad 0)), (1, .int a1), (2, .int a2)] := hl
  have kf188 := hts _ (List.mem_cons_of_mem _ m_fl_X8_188)
  have ki8 := (fun w h => List.mem_cons_of_mem _ (i_X8 w h) : ∀ w ∈ u_ws RX8 TX8 78, w ∈ wsX8_wrong)
  have kf191 := hts _ (List.mem_cons_of_mem _ m_fl_X8_191)
  refine (?_ : ∀ (H : Heap) (locs : List Loc), va_P (dC, dI) vwCl (zzM ad cy iM aM) H → va_D A (zzM ad cy iM aM) → va_S A s.heap H locs → W p l e ({ frames := 0, cells := 0, slots := 0, locals := 0 } : Room) s m args below meth c H locs 0 0 QQ (F0 m 0 ls [])) s.heap [] hP hD hS
  clear hP hD hS
  intro H locs hP hD hS
  unfold f_M_wrong at h
  refine lv_aload_n hx hb dX8_wrong_0 rfl (lv_at hl 0 rfl) ?_
  refine va_get (D := (dC, dI)) (ci := 8) (v := .int (iM 46)) (C := RX8) (T := TX8) (N := 78) hx hb hts ki8 hown hK hP 0 rfl rfl 46 (by decide) kf188 (fun _ h9 => h9) rfl dX8_wrong_1 ?_
  refine lv_if_ne (tgt := 17) hx hb dX8_wrong_4 (by decide) (fun cz => ?_) (fun cz => ?_)
  · have h := g_f h cz
    have h' := Option.some.inj h
    rw [← hQQ]
    exact W.vret hx hb hr (fun t ht hW => ⟨⟨(), rfl, trivial, by rw [← hWQ, ← h', ht]; exact hP, va_K.moved hW.alike hK⟩, hS.F ht⟩) hS.2.2 dX8_wrong_17
  · have h := g_t h cz
    refine lv_aload_n hx hb dX8_wrong_7 rfl (lv_at hl 0 rfl) ?_
    refine lv_iload_n hx hb dX8_wrong_8 rfl (lv_at hl 1 rfl) ?_
    refine va_put (D := (dC, dI)) (ci := 8) (v := .int a1) (ty := .int) (C := RX8) (T := TX8) (N := 78) hx hb hts ki8 tyX8 tyX8_ok nmX8 hown hK hP hD hS 0 rfl rfl 46 (by decide) kf188 (fun _ h9 => h9) rfl (by decide +kernel) rfl rfl (Nat.le_of_ble_eq_true rfl) dX8_wrong_9 (fun H locs hP hD hS => ?_)
    have hP : va_P (dC, dI) vwCl (zzM ad cy (us iM [(46, a1)]) aM) H := Eq.mp (congrArg (fun w => va_P (dC, dI) vwCl w H) (sfM_iM46 ad cy iM aM a1)) hP
    have hD : va_D A (zzM ad cy (us iM [(46, a1)]) aM) := Eq.mp (congrArg (fun w => va_D A w) (sfM_iM46 ad cy iM aM a1)) hD
    refine lv_aload_n hx hb dX8_wrong_12 rfl (lv_at hl 0 rfl) ?_
    refine lv_iload_n hx hb dX8_wrong_13 rfl (lv_at hl 2 rfl) ?_
    refine va_put (D := (dC, dI)) (ci := 8) (v := .int a2) (ty := .int) (C := RX8) (T := TX8) (N := 78) hx hb hts ki8 tyX8 tyX8_ok nmX8 hown hK hP hD hS 0 rfl rfl 47 (by decide) kf191 (fun _ h9 => h9) rfl (by decide +kernel) rfl rfl (Nat.le_of_ble_eq_true rfl) dX8_wrong_14 (fun H locs hP hD hS => ?_)
    have hP : va_P (dC, dI) vwCl (zzM ad cy (us iM [(46, a1), (47, a2)]) aM) H := Eq.mp (congrArg (fun w => va_P (dC, dI) vwCl w H) (stM_iM47 ad cy iM aM [(46, a1)] a2)) hP
    have hD : va_D A (zzM ad cy (us iM [(46, a1), (47, a2)]) aM) := Eq.mp (congrArg (fun w => va_D A w) (stM_iM47 ad cy iM aM [(46, a1)] a2)) hD
    have h' := Option.some.inj h
    rw [← hQQ]
    exact W.vret hx hb hr (fun t ht hW => ⟨⟨(), rfl, trivial, by rw [← hWQ, ← h', ht]; exact hP, va_K.moved hW.alike hK⟩, hS.F ht⟩) hS.2.2 dX8_wrong_17
set_option maxHeartbeats 8000000 in
set_option maxRecDepth 100000 in
theorem c_M_fine (l : Launch) (dC : Nat → ClassId) (dI : Nat → Nat → Nat) (cy : Nat → ClassId) (ad : Nat → Nat) (sz : Nat) (iM : Nat → Int32) (aM : Nat → Nat → Int32) (q : Int32) (h : f_M_fine (iM 46) = some q) : Met l yX8_fine wsX8_fine ({ frames := 0, cells := 0, slots := 0, locals := 0 } : Room) (cP (dC, dI) cy [.ref (ad 0)] (zzM ad cy iM aM) sz) (cQi (dC, dI) cy q (zzM ad cy iM aM) (va_A (zzM ad cy iM aM) sz)) 0 0 (va_A (zzM ad cy iM aM) sz) := by
  refine Met.ofW (cc := cX8_fine) (maxL := 1) (ret := (some .boolean)) (by decide) rfl ?_
  intro p e s m args below meth c s₁ B hml hv
  obtain ⟨hav, hsz, hP, hK, hD0, hN⟩ := hv
  have hx := B.exec
  have hb := B.bytes
  have hr := B.returns
  have hts := atoms_spec (ws := wsX8_fine) B.pre
  have hown : s.vm.findClass RX8 = some m.cls := findClass_of_methodNamed B.named
  have hlocks := B.notSynchronized
  subst hsz
  have hD := hD0.self (sz := s.heap.size)
  generalize hAe : va_A (zzM ad cy iM aM) s.heap.size = A at hD ⊢
  have hA : ∀ q : Nat, s.heap.size ≤ q → A q := fun q h => by rw [← hAe]; exact Or.inr h
  have hS : va_S A s.heap s.heap [] := va_S.rf
  generalize hWQ : (zzM ad cy iM aM) = WQ
  generalize hQQ : MQ below (cQi (dC, dI) cy q WQ A) args s 0 0 A = QQ
  have hl := lv_entry ([.ref (ad 0)] : List Value) (n := 1) (Nat.le_of_ble_eq_true rfl)
  have hfr := lg_entry_eq m ([.ref (ad 0)] : List Value) 1
  rw [← hav] at hfr
  rw [hfr]
  clear hfr hav
  generalize (lg_sl ([.ref (ad 0)] : List Value) ++ List.replicate (1 - (lg_sl ([.ref (ad 0)] : List Value)).length) Slot.unset).toArray = ls at hl ⊢
  have hl : lv_has ls 1 [(0, .ref (ad 0))] := hl
  have kf188 := hts _ (List.mem_cons_of_mem _ m_fl_X8_188)
  have ki8 := (fun w h => List.mem_cons_of_mem _ (i_X8 w h) : ∀ w ∈ u_ws RX8 TX8 78, w ∈ wsX8_fine)
  refine (?_ : ∀ (H : Heap) (locs : List Loc), va_P (dC, dI) vwCl (zzM ad cy iM aM) H → va_D A (zzM ad cy iM aM) → va_S A s.heap H locs → W p l e ({ frames := 0, cells := 0, slots := 0, locals := 0 } : Room) s m args below meth c H locs 0 0 QQ (F0 m 0 ls [])) s.heap [] hP hD hS
  clear hP hD hS
  intro H locs hP hD hS
  unfold f_M_fine at h
  refine lv_aload_n hx hb dX8_fine_0 rfl (lv_at hl 0 rfl) ?_
  refine va_get (D := (dC, dI)) (ci := 8) (v := .int (iM 46)) (C := RX8) (T := TX8) (N := 78) hx hb hts ki8 hown hK hP 0 rfl rfl 46 (by decide) kf188 (fun _ h9 => h9) rfl dX8_fine_1 ?_
  refine lv_if_ne (tgt := 11) hx hb dX8_fine_4 (by decide) (fun cz => ?_) (fun cz => ?_)
  · have h := g_f h cz
    refine lv_iconst (v := 0) hx hb dX8_fine_11 (by decide) ?_
    have h' := Option.some.inj h
    rw [← hQQ]
    exact W.zret (v := (0 : Int32)) hx hb hr rfl (fun t ht hW => ⟨⟨(0 : Int32), (), rfl, by rw [← h'], by rw [← hWQ, ht]; exact hP, va_K.moved hW.alike hK⟩, hS.F ht⟩) hS.2.2 dX8_fine_12
  · have h := g_t h cz
    refine lv_iconst (v := 1) hx hb dX8_fine_7 (by decide) ?_
    refine lv_goto (tgt := 12) hx hb dX8_fine_8 (by decide) ?_
    have h' := Option.some.inj h
    rw [← hQQ]
    exact W.zret (v := (1 : Int32)) hx hb hr rfl (fun t ht hW => ⟨⟨(1 : Int32), (), rfl, by rw [← h'], by rw [← hWQ, ht]; exact hP, va_K.moved hW.alike hK⟩, hS.F ht⟩) hS.2.2 dX8_fine_12
set_option maxHeartbeats 8000000 in
set_option maxRecDepth 100000 in
theorem c_M_misplaced (l : Launch) (dC : Nat → ClassId) (dI : Nat → Nat → Nat) (cy : Nat → ClassId) (ad : Nat → Nat) (sz : Nat) (iM : Nat → Int32) (aM : Nat → Nat → Int32) (q : Int32 × Int32) (h : f_M_misplaced (iM 3) (iM 4) (iM 46) (iM 47) = some q) : Met l yX8_misplaced wsX8_misplaced ({ frames := 1, cells := 0, slots := 0, locals := 22 } : Room) (cP (dC, dI) cy [.ref (ad 0)] (zzM ad cy iM aM) sz) (cQv (dC, dI) cy (zzM ad cy (us iM [(46, q.1), (47, q.2)]) aM) (va_A (zzM ad cy iM aM) sz)) 0 0 (va_A (zzM ad cy iM aM) sz) := by
  refine Met.ofW (cc := cX8_misplaced) (maxL := 1) (ret := none) (by decide) rfl ?_
  intro p e s m args below meth c s₁ B hml hv
  obtain ⟨hav, hsz, hP, hK, hD0, hN⟩ := hv
  have hx := B.exec
  have hb := B.bytes
  have hr := B.returns
  have hts := atoms_spec (ws := wsX8_misplaced) B.pre
  have hown : s.vm.findClass RX8 = some m.cls := findClass_of_methodNamed B.named
  have hlocks := B.notSynchronized
  subst hsz
  have hD := hD0.self (sz := s.heap.size)
  generalize hAe : va_A (zzM ad cy iM aM) s.heap.size = A at hD ⊢
  have hA : ∀ q : Nat, s.heap.size ≤ q → A q := fun q h => by rw [← hAe]; exact Or.inr h
  have hS : va_S A s.heap s.heap [] := va_S.rf
  generalize hWQ : (zzM ad cy (us iM [(46, q.1), (47, q.2)]) aM) = WQ
  generalize hQQ : MQ below (cQv (dC, dI) cy WQ A) args s 0 0 A = QQ
  have hl := lv_entry ([.ref (ad 0)] : List Value) (n := 1) (Nat.le_of_ble_eq_true rfl)
  have hfr := lg_entry_eq m ([.ref (ad 0)] : List Value) 1
  rw [← hav] at hfr
  rw [hfr]
  clear hfr hav
  generalize (lg_sl ([.ref (ad 0)] : List Value) ++ List.replicate (1 - (lg_sl ([.ref (ad 0)] : List Value)).length) Slot.unset).toArray = ls at hl ⊢
  have hl : lv_has ls 1 [(0, .ref (ad 0))] := hl
  have kf169 := hts _ (List.mem_cons_of_mem _ m_fl_X8_169)
  have ki8 := (fun w h => List.mem_cons_of_mem _ (i_X8 w h) : ∀ w ∈ u_ws RX8 TX8 78, w ∈ wsX8_misplaced)
  have kf178 := hts _ (List.mem_cons_of_mem _ m_fl_X8_178)
  refine (?_ : ∀ (H : Heap) (locs : List Loc), va_P (dC, dI) vwCl (zzM ad cy iM aM) H → va_D A (zzM ad cy iM aM) → va_S A s.heap H locs → W p l e ({ frames := 1, cells := 0, slots := 0, locals := 22 } : Room) s m args below meth c H locs 0 0 QQ (F0 m 0 ls [])) s.heap [] hP hD hS
  clear hP hD hS
  have B14 : ∀ (s1 : Int32) (H : Heap) (locs : List Loc) (ls : Array Slot), f_M_misplaced_14 (iM 3) (iM 4) (iM 46) (iM 47) s1 = some q → va_P (dC, dI) vwCl (zzM ad cy iM aM) H → va_D A (zzM ad cy iM aM) → va_S A s.heap H locs → lv_has ls 1 [(0, .ref (ad 0))] → W p l e ({ frames := 1, cells := 0, slots := 0, locals := 22 } : Room) s m args below meth c H locs 0 0 QQ (F0 m 14 ls [.int s1, .ref (ad 0)]) := by
    intro s1 H locs ls h hP hD hS hl
    unfold f_M_misplaced_14 at h
    refine lv_aload_n hx hb dX8_misplaced_14 rfl (lv_at hl 0 rfl) ?_
    refine va_get (D := (dC, dI)) (ci := 8) (v := .int (iM 4)) (C := RX8) (T := TX8) (N := 78) hx hb hts ki8 hown hK hP 0 rfl rfl 4 (by decide) kf169 (fun _ h9 => h9) rfl dX8_misplaced_15 ?_
    obtain ⟨q18, e18, h⟩ := g_b h
    refine callVvs (cc := cX8_misplaced) (w1 := zzM ad cy (us iM [(46, q18.1), (47, q18.2)]) aM) (As := [.int s1, .int (iM 4)]) (rest := []) ⟨hx, hb, hml, hown, hts⟩ (c_M_wrong l dC dI cy ad H.size s1 (iM 4) iM aM q18 e18) (cwV 2 hts (goodV m_ml_X8_194 m_im_X8_wrong m_se_X8_wrong m_in_X8 m_cd_X8_wrong) rfl rfl rfl (by decide +kernel) ⟨Nat.le_of_ble_eq_true rfl, Nat.le_of_ble_eq_true rfl⟩) hN hK hP hD hS hA rfl 0 rfl rfl rfl hl.1 rfl (Nat.le_of_ble_eq_true rfl) dX8_misplaced_18 ⟨Nat.zero_le _, Nat.zero_le _⟩ (fun H locs hP hD hS => ?_)
    have h' := Option.some.inj h
    rw [← hQQ]
    exact W.vret hx hb hr (fun t ht hW => ⟨⟨(), rfl, trivial, by rw [← hWQ, ← h', ht]; exact hP, va_K.moved hW.alike hK⟩, hS.F ht⟩) hS.2.2 dX8_misplaced_21
  intro H locs hP hD hS
  unfold f_M_misplaced at h
  refine lv_aload_n hx hb dX8_misplaced_0 rfl (lv_at hl 0 rfl) ?_
  refine lv_aload_n hx hb dX8_misplaced_1 rfl (lv_at hl 0 rfl) ?_
  refine va_get (D := (dC, dI)) (ci := 8) (v := .int (iM 3)) (C := RX8) (T := TX8) (N := 78) hx hb hts ki8 hown hK hP 0 rfl rfl 3 (by decide) kf178 (fun _ h9 => h9) rfl dX8_misplaced_2 ?_
  refine lv_iconst (v := 3) hx hb dX8_misplaced_5 (by decide) ?_
  refine lv_icmp_ne (tgt := 13) hx hb dX8_misplaced_6 (by decide) (fun cz => ?_) (fun cz => ?_)
  · have h := g_f h cz
    refine lv_iconst (v := 2) hx hb dX8_misplaced_13 (by decide) ?_
    exact B14 ((2 : Int32)) H locs ls h hP hD hS (lv_sub hl [0] rfl)
  · have h := g_t h cz
    refine lv_iconst (v := 1) hx hb dX8_misplaced_9 (by decide) ?_
    refine lv_goto (tgt := 14) hx hb dX8_misplaced_10 (by decide) ?_
    exact B14 ((1 : Int32)) H locs ls h hP hD hS (lv_sub hl [0] rfl)
set_option maxHeartbeats 8000000 in
set_option maxRecDepth 100000 in
theorem c_M_take (l : Launch) (dC : Nat → ClassId) (dI : Nat → Nat → Nat) (cy : Nat → ClassId) (ad : Nat → Nat) (sz : Nat) (N : Nat) (a1 : Int32) (iM : Nat → Int32) (aM : Nat → Nat → Int32) (q : Int32 × Int32 × Int32 × Int32 × Int32 × Int32 × Int32) (h : f_M_take N a1 (iM 1) (iM 2) (iM 3) (iM 4) (iM 5) (iM 6) (iM 46) (iM 47) (aM 0) = some q) : Met l yX8_take wsX8_take ({ frames := 3, cells := 0, slots := 0, locals := 66 } : Room) (cP (dC, dI) cy [.ref (ad 0), .int a1] (zzM ad cy iM aM) sz) (cQv (dC, dI) cy (zzM ad cy (us iM [(2, q.1), (3, q.2.1), (4, q.2.2.1), (5, q.2.2.2.1), (6, q.2.2.2.2.1), (46, q.2.2.2.2.2.1), (47, q.2.2.2.2.2.2)]) aM) (va_A (zzM ad cy iM aM) sz)) 0 0 (va_A (zzM ad cy iM aM) sz) := by
  refine Met.ofW (cc := cX8_take) (maxL := 2) (ret := none) (by decide) rfl ?_
  intro p e s m args below meth c s₁ B hml hv
  obtain ⟨hav, hsz, hP, hK, hD0, hN⟩ := hv
  have hx := B.exec
  have hb := B.bytes
  have hr := B.returns
  have hts := atoms_spec (ws := wsX8_take) B.pre
  have hown : s.vm.findClass RX8 = some m.cls := findClass_of_methodNamed B.named
  have hlocks := B.notSynchronized
  subst hsz
  have hD := hD0.self (sz := s.heap.size)
  generalize hAe : va_A (zzM ad cy iM aM) s.heap.size = A at hD ⊢
  have hA : ∀ q : Nat, s.heap.size ≤ q → A q := fun q h => by rw [← hAe]; exact Or.inr h
  have hS : va_S A s.heap s.heap [] := va_S.rf
  generalize hWQ : (zzM ad cy (us iM [(2, q.1), (3, q.2.1), (4, q.2.2.1), (5, q.2.2.2.1), (6, q.2.2.2.2.1), (46, q.2.2.2.2.2.1), (47, q.2.2.2.2.2.2)]) aM) = WQ
  generalize hQQ : MQ below (cQv (dC, dI) cy WQ A) args s 0 0 A = QQ
  have hl := lv_entry ([.ref (ad 0), .int a1] : List Value) (n := 2) (Nat.le_of_ble_eq_true rfl)
  have hfr := lg_entry_eq m ([.ref (ad 0), .int a1] : List Value) 2
  rw [← hav] at hfr
  rw [hfr]
  clear hfr hav
  generalize (lg_sl ([.ref (ad 0), .int a1] : List Value) ++ List.replicate (2 - (lg_sl ([.ref (ad 0), .int a1] : List Value)).length) Slot.unset).toArray = ls at hl ⊢
  have hl : lv_has ls 2 [(0, .ref (ad 0)), (1, .int a1)] := hl
  refine (?_ : ∀ (H : Heap) (locs : List Loc), va_P (dC, dI) vwCl (zzM ad cy iM aM) H → va_D A (zzM ad cy iM aM) → va_S A s.heap H locs → W p l e ({ frames := 3, cells := 0, slots := 0, locals := 66 } : Room) s m args below meth c H locs 0 0 QQ (F0 m 0 ls [])) s.heap [] hP hD hS
  clear hP hD hS
  intro H locs hP hD hS
  unfold f_M_take at h
  refine lv_aload_n hx hb dX8_take_0 rfl (lv_at hl 0 rfl) ?_
  obtain ⟨q1, e1, h⟩ := g_b h
  refine callVis (cc := cX8_take) (w1 := zzM ad cy iM aM) (As := []) (rest := []) ⟨hx, hb, hml, hown, hts⟩ (c_M_fine l dC dI cy ad H.size iM aM q1 e1) (cwV 0 hts (goodV m_ml_X8_198 m_im_X8_fine m_se_X8_fine m_in_X8 m_cd_X8_fine) rfl rfl rfl (by decide +kernel) ⟨Nat.le_of_ble_eq_true rfl, Nat.le_of_ble_eq_true rfl⟩) hN hK hP hD hS hA rfl 0 rfl rfl rfl hl.1 rfl (Nat.le_of_ble_eq_true rfl) dX8_take_1 ⟨Nat.zero_le _, Nat.zero_le _⟩ (fun H locs hP hD hS => ?_)
  refine lv_if_eq (tgt := 26) hx hb dX8_take_4 (by decide) (fun cz => ?_) (fun cz => ?_)
  · have h := g_t h cz
    have h' := Option.some.inj h
    rw [← hQQ]
    exact W.vret hx hb hr (fun t ht hW => ⟨⟨(), rfl, trivial, by rw [← hWQ, ← h', ht]; exact hP, va_K.moved hW.alike hK⟩, hS.F ht⟩) hS.2.2 dX8_take_26
  · have h := g_f h cz
    refine lv_aload_n hx hb dX8_take_7 rfl (lv_at hl 0 rfl) ?_
    refine lv_iload_n hx hb dX8_take_8 rfl (lv_at hl 1 rfl) ?_
    obtain ⟨q9, e9, h⟩ := g_b h
    refine callVis (cc := cX8_take) (w1 := zzM ad cy iM aM) (As := [.int a1]) (rest := []) ⟨hx, hb, hml, hown, hts⟩ (c_M_isSignHere l dC dI cy ad H.size a1 iM aM q9 e9) (cwV 1 hts (goodV m_ml_X8_202 m_im_X8_isSignHere m_se_X8_isSignHere m_in_X8 m_cd_X8_isSignHere) rfl rfl rfl (by decide +kernel) ⟨Nat.le_of_ble_eq_true rfl, Nat.le_of_ble_eq_true rfl⟩) hN hK hP hD hS hA rfl 0 rfl rfl rfl hl.1 rfl (Nat.le_of_ble_eq_true rfl) dX8_take_9 ⟨Nat.zero_le _, Nat.zero_le _⟩ (fun H locs hP hD hS => ?_)
    refine lv_if_eq (tgt := 22) hx hb dX8_take_12 (by decide) (fun cz => ?_) (fun cz => ?_)
    · have h := g_t h cz
      refine lv_aload_n hx hb dX8_take_22 rfl (lv_at hl 0 rfl) ?_
      obtain ⟨q23, e23, h⟩ := g_b h
      refine callVvs (cc := cX8_take) (w1 := zzM ad cy (us iM [(46, q23.1), (47, q23.2)]) aM) (As := []) (rest := []) ⟨hx, hb, hml, hown, hts⟩ (c_M_misplaced l dC dI cy ad H.size iM aM q23 e23) (cwV 0 hts (goodV m_ml_X8_208 m_im_X8_misplaced m_se_X8_misplaced m_in_X8 m_cd_X8_misplaced) rfl rfl rfl (by decide +kernel) ⟨Nat.le_of_ble_eq_true rfl, Nat.le_of_ble_eq_true rfl⟩) hN hK hP hD hS hA rfl 0 rfl rfl rfl hl.1 rfl (Nat.le_of_ble_eq_true rfl) dX8_take_23 ⟨Nat.zero_le _, Nat.zero_le _⟩ (fun H locs hP hD hS => ?_)
      have h' := Option.some.inj h
      rw [← hQQ]
      exact W.vret hx hb hr (fun t ht hW => ⟨⟨(), rfl, trivial, by rw [← hWQ, ← h', ht]; exact hP, va_K.moved hW.alike hK⟩, hS.F ht⟩) hS.2.2 dX8_take_26
    · have h := g_f h cz
      refine lv_aload_n hx hb dX8_take_15 rfl (lv_at hl 0 rfl) ?_
      obtain ⟨q16, e16, h⟩ := g_b h
      refine callVvs (cc := cX8_take) (w1 := zzM ad cy (us iM [(2, q16.1), (3, q16.2.1), (4, q16.2.2.1), (5, q16.2.2.2.1), (6, q16.2.2.2.2)]) aM) (As := []) (rest := []) ⟨hx, hb, hml, hown, hts⟩ (c_M_next l dC dI cy ad H.size N iM aM q16 e16) (cwV 0 hts (goodV m_ml_X8_205 m_im_X8_next m_se_X8_next m_in_X8 m_cd_X8_next) rfl rfl rfl (by decide +kernel) ⟨Nat.le_of_ble_eq_true rfl, Nat.le_of_ble_eq_true rfl⟩) hN hK hP hD hS hA rfl 0 rfl rfl rfl hl.1 rfl (Nat.le_of_ble_eq_true rfl) dX8_take_16 ⟨Nat.zero_le _, Nat.zero_le _⟩ (fun H locs hP hD hS => ?_)
      refine lv_goto (tgt := 26) hx hb dX8_take_19 (by decide) ?_
      have h' := Option.some.inj h
      rw [← hQQ]
      exact W.vret hx hb hr (fun t ht hW => ⟨⟨(), rfl, trivial, by rw [← hWQ, ← h', ht]; exact hP, va_K.moved hW.alike hK⟩, hS.F ht⟩) hS.2.2 dX8_take_26
set_option maxHeartbeats 8000000 in
set_option maxRecDepth 100000 in
theorem c_M_newNode (l : Launch) (dC : Nat → ClassId) (dI : Nat → Nat → Nat) (cy : Nat → ClassId) (ad : Nat → Nat) (sz : Nat) (a1 : Int32) (iM : Nat → Int32) (aM : Nat → Nat → Int32) (q : Int32 × Int32 × Int32 × Int32 × (Nat → Int32) × (Nat → Int32) × (Nat → Int32) × (Nat → Int32) × (Nat → Int32)) (h : f_M_newNode a1 (iM 4) (iM 38) (iM 46) (iM 47) (aM 8) (aM 9) (aM 10) (aM 11) (aM 12) = some q) : Met l yX8_newNode wsX8_newNode ({ frames := 1, cells := 0, slots := 0, locals := 22 } : Room) (cP (dC, dI) cy [.ref (ad 0), .int a1] (zzM ad cy iM aM) sz) (cQi (dC, dI) cy q.1 (zzM ad cy (us iM [(38, q.2.1), (46, q.2.2.1), (47, q.2.2.2.1)]) (us aM [(8, q.2.2.2.2.1), (9, q.2.2.2.2.2.1), (10, q.2.2.2.2.2.2.1), (11, q.2.2.2.2.2.2.2.1), (12, q.2.2.2.2.2.2.2.2)])) (va_A (zzM ad cy iM aM) sz)) 0 0 (va_A (zzM ad cy iM aM) sz) := by
  refine Met.ofW (cc := cX8_newNode) (maxL := 3) (ret := (some .int)) (by decide) rfl ?_
  intro p e s m args below meth c s₁ B hml hv
  obtain ⟨hav, hsz, hP, hK, hD0, hN⟩ := hv
  have hx := B.exec
  have hb := B.bytes
  have hr := B.returns
  have hts := atoms_spec (ws := wsX8_newNode) B.pre
  have hown : s.vm.findClass RX8 = some m.cls := findClass_of_methodNamed B.named
  have hlocks := B.notSynchronized
  subst hsz
  have hD := hD0.self (sz := s.heap.size)
  generalize hAe : va_A (zzM ad cy iM aM) s.heap.size = A at hD ⊢
  have hA : ∀ q : Nat, s.heap.size ≤ q → A q := fun q h => by rw [← hAe]; exact Or.inr h
  have hS : va_S A s.heap s.heap [] := va_S.rf
  generalize hWQ : (zzM ad cy (us iM [(38, q.2.1), (46, q.2.2.1), (47, q.2.2.2.1)]) (us aM [(8, q.2.2.2.2.1), (9, q.2.2.2.2.2.1), (10, q.2.2.2.2.2.2.1), (11, q.2.2.2.2.2.2.2.1), (12, q.2.2.2.2.2.2.2.2)])) = WQ
  generalize hQQ : MQ below (cQi (dC, dI) cy q.1 WQ A) args s 0 0 A = QQ
  have hl := lv_entry ([.ref (ad 0), .int a1] : List Value) (n := 3) (Nat.le_of_ble_eq_true rfl)
  have hfr := lg_entry_eq m ([.ref (ad 0), .int a1] : List Value) 3
  rw [← hav] at hfr
  rw [hfr]
  clear hfr hav
  generalize (lg_sl ([.ref (ad 0), .int a1] : List Value) ++ List.replicate (3 - (lg_sl ([.ref (ad 0), .int a1] : List Value)).length) Slot.unset).toArray = ls at hl ⊢
  have hl : lv_has ls 3 [(0, .ref (ad 0)), (1, .int a1)] := hl
  have kf211 := hts _ (List.mem_cons_of_mem _ m_fl_X8_211)
  have ki8 := (fun w h => List.mem_cons_of_mem _ (i_X8 w h) : ∀ w ∈ u_ws RX8 TX8 78, w ∈ wsX8_newNode)
  have kf17 := hts _ (List.mem_cons_of_mem _ m_fl_X8_17)
  have kf21 := hts _ (List.mem_cons_of_mem _ m_fl_X8_21)
  have kf24 := hts _ (List.mem_cons_of_mem _ m_fl_X8_24)
  have kf27 := hts _ (List.mem_cons_of_mem _ m_fl_X8_27)
  have kf30 := hts _ (List.mem_cons_of_mem _ m_fl_X8_30)
  have kf169 := hts _ (List.mem_cons_of_mem _ m_fl_X8_169)
  refine (?_ : ∀ (H : Heap) (locs : List Loc), va_P (dC, dI) vwCl (zzM ad cy iM aM) H → va_D A (zzM ad cy iM aM) → va_S A s.heap H locs → W p l e ({ frames := 1, cells := 0, slots := 0, locals := 22 } : Room) s m args below meth c H locs 0 0 QQ (F0 m 0 ls [])) s.heap [] hP hD hS
  clear hP hD hS
  intro H locs hP hD hS
  unfold f_M_newNode at h
  refine lv_aload_n hx hb dX8_newNode_0 rfl (lv_at hl 0 rfl) ?_
  refine va_get (D := (dC, dI)) (ci := 8) (v := .int (iM 38)) (C := RX8) (T := TX8) (N := 78) hx hb hts ki8 hown hK hP 0 rfl rfl 38 (by decide) kf211 (fun _ h9 => h9) rfl dX8_newNode_1 ?_
  refine lv_sipush (v := 200) hx hb dX8_newNode_4 (by decide) ?_
  refine lv_icmp_ne (tgt := 23) hx hb dX8_newNode_7 (by decide) (fun cz => ?_) (fun cz => ?_)
  · have h := g_f h cz
    refine lv_sipush (v := 200) hx hb dX8_newNode_23 (by decide) ?_
    refine lv_aload_n hx hb dX8_newNode_26 rfl (lv_at hl 0 rfl) ?_
    refine va_get (D := (dC, dI)) (ci := 8) (v := .int (iM 38)) (C := RX8) (T := TX8) (N := 78) hx hb hts ki8 hown hK hP 0 rfl rfl 38 (by decide) kf211 (fun _ h9 => h9) rfl dX8_newNode_27 ?_
    refine lv_iadd hx hb dX8_newNode_30 ?_
    refine lv_istore_n (lv' := [(2, .int (((200 : Int32) + (iM 38)))), (0, .ref (ad 0)), (1, .int a1)]) hx hb dX8_newNode_31 rfl hl (by decide) rfl (fun ls hl => ?_)
    refine lv_aload_n hx hb dX8_newNode_32 rfl (lv_at hl 1 rfl) ?_
    refine lv_dup hx hb dX8_newNode_33 rfl ?_
    refine va_get (D := (dC, dI)) (ci := 8) (v := .int (iM 38)) (C := RX8) (T := TX8) (N := 78) hx hb hts ki8 hown hK hP 0 rfl rfl 38 (by decide) kf211 (fun _ h9 => h9) rfl dX8_newNode_34 ?_
    refine lv_iconst (v := 1) hx hb dX8_newNode_37 (by decide) ?_
    refine lv_iadd hx hb dX8_newNode_38 ?_
    refine va_put (D := (dC, dI)) (ci := 8) (v := .int (((iM 38) + (1 : Int32)))) (ty := .int) (C := RX8) (T := TX8) (N := 78) hx hb hts ki8 tyX8 tyX8_ok nmX8 hown hK hP hD hS 0 rfl rfl 38 (by decide) kf211 (fun _ h9 => h9) rfl (by decide +kernel) rfl rfl (Nat.le_of_ble_eq_true rfl) dX8_newNode_39 (fun H locs hP hD hS => ?_)
    have hP : va_P (dC, dI) vwCl (zzM ad cy (us iM [(38, ((iM 38) + (1 : Int32)))]) aM) H := Eq.mp (congrArg (fun w => va_P (dC, dI) vwCl w H) (sfM_iM38 ad cy iM aM (((iM 38) + (1 : Int32))))) hP
    have hD : va_D A (zzM ad cy (us iM [(38, ((iM 38) + (1 : Int32)))]) aM) := Eq.mp (congrArg (fun w => va_D A w) (sfM_iM38 ad cy iM aM (((iM 38) + (1 : Int32))))) hD
    refine lv_aload_n hx hb dX8_newNode_42 rfl (lv_at hl 1 rfl) ?_
    refine va_get (D := (dC, dI)) (ci := 8) (v := .ref (ad 3)) (C := RX8) (T := TX8) (N := 78) hx hb hts ki8 hown hK hP 0 rfl rfl 8 (by decide) kf17 (fun _ h9 => h9) rfl dX8_newNode_43 ?_
    refine lv_iload_n hx hb dX8_newNode_46 rfl (lv_at hl 0 rfl) ?_
    refine lv_iload_n hx hb dX8_newNode_47 rfl (lv_at hl 2 rfl) ?_
    obtain ⟨g_53, h⟩ := g_n h
    refine va_iast (f := (aM 8)) hx hb hK hP hD hS 3 0 rfl rfl g_53 dX8_newNode_48 (fun H locs hP hD hS => ?_)
    have hP : va_P (dC, dI) vwCl (zzM ad cy (us iM [(38, ((iM 38) + (1 : Int32)))]) (us aM [(8, (upd (aM 8) (((200 : Int32) + (iM 38))).toNatClampNeg a1))])) H := Eq.mp (congrArg (fun w => va_P (dC, dI) vwCl w H) (sfM_aM8 ad cy (us iM [(38, ((iM 38) + (1 : Int32)))]) aM ((upd (aM 8) (((200 : Int32) + (iM 38))).toNatClampNeg a1)))) hP
    have hD : va_D A (zzM ad cy (us iM [(38, ((iM 38) + (1 : Int32)))]) (us aM [(8, (upd (aM 8) (((200 : Int32) + (iM 38))).toNatClampNeg a1))])) := Eq.mp (congrArg (fun w => va_D A w) (sfM_aM8 ad cy (us iM [(38, ((iM 38) + (1 : Int32)))]) aM ((upd (aM 8) (((200 : Int32) + (iM 38))).toNatClampNeg a1)))) hD
    refine lv_aload_n hx hb dX8_newNode_49 rfl (lv_at hl 1 rfl) ?_
    refine va_get (D := (dC, dI)) (ci := 8) (v := .ref (ad 4)) (C := RX8) (T := TX8) (N := 78) hx hb hts ki8 hown hK hP 0 rfl rfl 9 (by decide) kf21 (fun _ h9 => h9) rfl dX8_newNode_50 ?_
    refine lv_iload_n hx hb dX8_newNode_53 rfl (lv_at hl 0 rfl) ?_
    refine lv_iconst (v := (-1)) hx hb dX8_newNode_54 (by decide) ?_
    refine va_iast (f := (aM 9)) hx hb hK hP hD hS 4 0 rfl rfl g_53 dX8_newNode_55 (fun H locs hP hD hS => ?_)
    have hP : va_P (dC, dI) vwCl (zzM ad cy (us iM [(38, ((iM 38) + (1 : Int32)))]) (us aM [(8, (upd (aM 8) (((200 : Int32) + (iM 38))).toNatClampNeg a1)), (9, (upd (aM 9) (((200 : Int32) + (iM 38))).toNatClampNeg ((-1 : Int32))))])) H := Eq.mp (congrArg (fun w => va_P (dC, dI) vwCl w H) (stM_aM9 ad cy (us iM [(38, ((iM 38) + (1 : Int32)))]) aM [(8, (upd (aM 8) (((200 : Int32) + (iM 38))).toNatClampNeg a1))] ((upd (aM 9) (((200 : Int32) + (iM 38))).toNatClampNeg ((-1 : Int32)))))) hP
    have hD : va_D A (zzM ad cy (us iM [(38, ((iM 38) + (1 : Int32)))]) (us aM [(8, (upd (aM 8) (((200 : Int32) + (iM 38))).toNatClampNeg a1)), (9, (upd (aM 9) (((200 : Int32) + (iM 38))).toNatClampNeg ((-1 : Int32))))])) := Eq.mp (congrArg (fun w => va_D A w) (stM_aM9 ad cy (us iM [(38, ((iM 38) + (1 : Int32)))]) aM [(8, (upd (aM 8) (((200 : Int32) + (iM 38))).toNatClampNeg a1))] ((upd (aM 9) (((200 : Int32) + (iM 38))).toNatClampNeg ((-1 : Int32)))))) hD
    refine lv_aload_n hx hb dX8_newNode_56 rfl (lv_at hl 1 rfl) ?_
    refine va_get (D := (dC, dI)) (ci := 8) (v := .ref (ad 5)) (C := RX8) (T := TX8) (N := 78) hx hb hts ki8 hown hK hP 0 rfl rfl 10 (by decide) kf24 (fun _ h9 => h9) rfl dX8_newNode_57 ?_
    refine lv_iload_n hx hb dX8_newNode_60 rfl (lv_at hl 0 rfl) ?_
    refine lv_iconst (v := (-1)) hx hb dX8_newNode_61 (by decide) ?_
    refine va_iast (f := (aM 10)) hx hb hK hP hD hS 5 0 rfl rfl g_53 dX8_newNode_62 (fun H locs hP hD hS => ?_)
    have hP : va_P (dC, dI) vwCl (zzM ad cy (us iM [(38, ((iM 38) + (1 : Int32)))]) (us aM [(8, (upd (aM 8) (((200 : Int32) + (iM 38))).toNatClampNeg a1)), (9, (upd (aM 9) (((200 : Int32) + (iM 38))).toNatClampNeg ((-1 : Int32)))), (10, (upd (aM 10) (((200 : Int32) + (iM 38))).toNatClampNeg ((-1 : Int32))))])) H := Eq.mp (congrArg (fun w => va_P (dC, dI) vwCl w H) (stM_aM10 ad cy (us iM [(38, ((iM 38) + (1 : Int32)))]) aM [(8, (upd (aM 8) (((200 : Int32) + (iM 38))).toNatClampNeg a1)), (9, (upd (aM 9) (((200 : Int32) + (iM 38))).toNatClampNeg ((-1 : Int32))))] ((upd (aM 10) (((200 : Int32) + (iM 38))).toNatClampNeg ((-1 : Int32)))))) hP
    have hD : va_D A (zzM ad cy (us iM [(38, ((iM 38) + (1 : Int32)))]) (us aM [(8, (upd (aM 8) (((200 : Int32) + (iM 38))).toNatClampNeg a1)), (9, (upd (aM 9) (((200 : Int32) + (iM 38))).toNatClampNeg ((-1 : Int32)))), (10, (upd (aM 10) (((200 : Int32) + (iM 38))).toNatClampNeg ((-1 : Int32))))])) := Eq.mp (congrArg (fun w => va_D A w) (stM_aM10 ad cy (us iM [(38, ((iM 38) + (1 : Int32)))]) aM [(8, (upd (aM 8) (((200 : Int32) + (iM 38))).toNatClampNeg a1)), (9, (upd (aM 9) (((200 : Int32) + (iM 38))).toNatClampNeg ((-1 : Int32))))] ((upd (aM 10) (((200 : Int32) + (iM 38))).toNatClampNeg ((-1 : Int32)))))) hD
    refine lv_aload_n hx hb dX8_newNode_63 rfl (lv_at hl 1 rfl) ?_
    refine va_get (D := (dC, dI)) (ci := 8) (v := .ref (ad 6)) (C := RX8) (T := TX8) (N := 78) hx hb hts ki8 hown hK hP 0 rfl rfl 11 (by decide) kf27 (fun _ h9 => h9) rfl dX8_newNode_64 ?_
    refine lv_iload_n hx hb dX8_newNode_67 rfl (lv_at hl 0 rfl) ?_
    refine lv_iconst (v := (-1)) hx hb dX8_newNode_68 (by decide) ?_
    refine va_iast (f := (aM 11)) hx hb hK hP hD hS 6 0 rfl rfl g_53 dX8_newNode_69 (fun H locs hP hD hS => ?_)
    have hP : va_P (dC, dI) vwCl (zzM ad cy (us iM [(38, ((iM 38) + (1 : Int32)))]) (us aM [(8, (upd (aM 8) (((200 : Int32) + (iM 38))).toNatClampNeg a1)), (9, (upd (aM 9) (((200 : Int32) + (iM 38))).toNatClampNeg ((-1 : Int32)))), (10, (upd (aM 10) (((200 : Int32) + (iM 38))).toNatClampNeg ((-1 : Int32)))), (11, (upd (aM 11) (((200 : Int32) + (iM 38))).toNatClampNeg ((-1 : Int32))))])) H := Eq.mp (congrArg (fun w => va_P (dC, dI) vwCl w H) (stM_aM11 ad cy (us iM [(38, ((iM 38) + (1 : Int32)))]) aM [(8, (upd (aM 8) (((200 : Int32) + (iM 38))).toNatClampNeg a1)), (9, (upd (aM 9) (((200 : Int32) + (iM 38))).toNatClampNeg ((-1 : Int32)))), (10, (upd (aM 10) (((200 : Int32) + (iM 38))).toNatClampNeg ((-1 : Int32))))] ((upd (aM 11) (((200 : Int32) + (iM 38))).toNatClampNeg ((-1 : Int32)))))) hP
    have hD : va_D A (zzM ad cy (us iM [(38, ((iM 38) + (1 : Int32)))]) (us aM [(8, (upd (aM 8) (((200 : Int32) + (iM 38))).toNatClampNeg a1)), (9, (upd (aM 9) (((200 : Int32) + (iM 38))).toNatClampNeg ((-1 : Int32)))), (10, (upd (aM 10) (((200 : Int32) + (iM 38))).toNatClampNeg ((-1 : Int32)))), (11, (upd (aM 11) (((200 : Int32) + (iM 38))).toNatClampNeg ((-1 : Int32))))])) := Eq.mp (congrArg (fun w => va_D A w) (stM_aM11 ad cy (us iM [(38, ((iM 38) + (1 : Int32)))]) aM [(8, (upd (aM 8) (((200 : Int32) + (iM 38))).toNatClampNeg a1)), (9, (upd (aM 9) (((200 : Int32) + (iM 38))).toNatClampNeg ((-1 : Int32)))), (10, (upd (aM 10) (((200 : Int32) + (iM 38))).toNatClampNeg ((-1 : Int32))))] ((upd (aM 11) (((200 : Int32) + (iM 38))).toNatClampNeg ((-1 : Int32)))))) hD
    refine lv_aload_n hx hb dX8_newNode_70 rfl (lv_at hl 1 rfl) ?_
    refine va_get (D := (dC, dI)) (ci := 8) (v := .ref (ad 7)) (C := RX8) (T := TX8) (N := 78) hx hb hts ki8 hown hK hP 0 rfl rfl 12 (by decide) kf30 (fun _ h9 => h9) rfl dX8_newNode_71 ?_
    refine lv_iload_n hx hb dX8_newNode_74 rfl (lv_at hl 0 rfl) ?_
    refine lv_aload_n hx hb dX8_newNode_75 rfl (lv_at hl 1 rfl) ?_
    refine va_get (D := (dC, dI)) (ci := 8) (v := .int (iM 4)) (C := RX8) (T := TX8) (N := 78) hx hb hts ki8 hown hK hP 0 rfl rfl 4 (by decide) kf169 (fun _ h9 => h9) rfl dX8_newNode_76 ?_
    refine va_iast (f := (aM 12)) hx hb hK hP hD hS 7 0 rfl rfl g_53 dX8_newNode_79 (fun H locs hP hD hS => ?_)
    have hP : va_P (dC, dI) vwCl (zzM ad cy (us iM [(38, ((iM 38) + (1 : Int32)))]) (us aM [(8, (upd (aM 8) (((200 : Int32) + (iM 38))).toNatClampNeg a1)), (9, (upd (aM 9) (((200 : Int32) + (iM 38))).toNatClampNeg ((-1 : Int32)))), (10, (upd (aM 10) (((200 : Int32) + (iM 38))).toNatClampNeg ((-1 : Int32)))), (11, (upd (aM 11) (((200 : Int32) + (iM 38))).toNatClampNeg ((-1 : Int32)))), (12, (upd (aM 12) (((200 : Int32) + (iM 38))).toNatClampNeg (iM 4)))])) H := Eq.mp (congrArg (fun w => va_P (dC, dI) vwCl w H) (stM_aM12 ad cy (us iM [(38, ((iM 38) + (1 : Int32)))]) aM [(8, (upd (aM 8) (((200 : Int32) + (iM 38))).toNatClampNeg a1)), (9, (upd (aM 9) (((200 : Int32) + (iM 38))).toNatClampNeg ((-1 : Int32)))), (10, (upd (aM 10) (((200 : Int32) + (iM 38))).toNatClampNeg ((-1 : Int32)))), (11, (upd (aM 11) (((200 : Int32) + (iM 38))).toNatClampNeg ((-1 : Int32))))] ((upd (aM 12) (((200 : Int32) + (iM 38))).toNatClampNeg (iM 4))))) hP
    have hD : va_D A (zzM ad cy (us iM [(38, ((iM 38) + (1 : Int32)))]) (us aM [(8, (upd (aM 8) (((200 : Int32) + (iM 38))).toNatClampNeg a1)), (9, (upd (aM 9) (((200 : Int32) + (iM 38))).toNatClampNeg ((-1 : Int32)))), (10, (upd (aM 10) (((200 : Int32) + (iM 38))).toNatClampNeg ((-1 : Int32)))), (11, (upd (aM 11) (((200 : Int32) + (iM 38))).toNatClampNeg ((-1 : Int32)))), (12, (upd (aM 12) (((200 : Int32) + (iM 38))).toNatClampNeg (iM 4)))])) := Eq.mp (congrArg (fun w => va_D A w) (stM_aM12 ad cy (us iM [(38, ((iM 38) + (1 : Int32)))]) aM [(8, (upd (aM 8) (((200 : Int32) + (iM 38))).toNatClampNeg a1)), (9, (upd (aM 9) (((200 : Int32) + (iM 38))).toNatClampNeg ((-1 : Int32)))), (10, (upd (aM 10) (((200 : Int32) + (iM 38))).toNatClampNeg ((-1 : Int32)))), (11, (upd (aM 11) (((200 : Int32) + (iM 38))).toNatClampNeg ((-1 : Int32))))] ((upd (aM 12) (((200 : Int32) + (iM 38))).toNatClampNeg (iM 4))))) hD
    refine lv_iload_n hx hb dX8_newNode_80 rfl (lv_at hl 0 rfl) ?_
    have h' := Option.some.inj h
    rw [← hQQ]
    exact W.iret (v := ((200 : Int32) + (iM 38))) hx hb hr (fun t ht hW => ⟨⟨((200 : Int32) + (iM 38)), (), rfl, by rw [← h'], by rw [← hWQ, ← h', ht]; exact hP, va_K.moved hW.alike hK⟩, hS.F ht⟩) hS.2.2 dX8_newNode_81
  · have h := g_t h cz
    refine lv_aload_n hx hb dX8_newNode_10 rfl (lv_at hl 0 rfl) ?_
    refine lv_iconst (v := 3) hx hb dX8_newNode_11 (by decide) ?_
    refine lv_aload_n hx hb dX8_newNode_12 rfl (lv_at hl 0 rfl) ?_
    refine va_get (D := (dC, dI)) (ci := 8) (v := .int (iM 4)) (C := RX8) (T := TX8) (N := 78) hx hb hts ki8 hown hK hP 0 rfl rfl 4 (by decide) kf169 (fun _ h9 => h9) rfl dX8_newNode_13 ?_
    obtain ⟨q16, e16, h⟩ := g_b h
    refine callVvs (cc := cX8_newNode) (w1 := zzM ad cy (us iM [(46, q16.1), (47, q16.2)]) aM) (As := [.int ((3 : Int32)), .int (iM 4)]) (rest := []) ⟨hx, hb, hml, hown, hts⟩ (c_M_wrong l dC dI cy ad H.size ((3 : Int32)) (iM 4) iM aM q16 e16) (cwV 2 hts (goodV m_ml_X8_194 m_im_X8_wrong m_se_X8_wrong m_in_X8 m_cd_X8_wrong) rfl rfl rfl (by decide +kernel) ⟨Nat.le_of_ble_eq_true rfl, Nat.le_of_ble_eq_true rfl⟩) hN hK hP hD hS hA rfl 0 rfl rfl rfl hl.1 rfl (Nat.le_of_ble_eq_true rfl) dX8_newNode_16 ⟨Nat.zero_le _, Nat.zero_le _⟩ (fun H locs hP hD hS => ?_)
    refine lv_sipush (v := 200) hx hb dX8_newNode_19 (by decide) ?_
    have h' := Option.some.inj h
    rw [← hQQ]
    exact W.iret (v := (200 : Int32)) hx hb hr (fun t ht hW => ⟨⟨(200 : Int32), (), rfl, by rw [← h'], by rw [← hWQ, ← h', ht]; exact hP, va_K.moved hW.alike hK⟩, hS.F ht⟩) hS.2.2 dX8_newNode_22
set_option maxHeartbeats 8000000 in
set_option maxRecDepth 100000 in
theorem c_M_isHere_nameLetters (l : Launch) (dC : Nat → ClassId) (dI : Nat → Nat → Nat) (cy : Nat → ClassId) (ad : Nat → Nat) (sz : Nat) (N : Nat) (a2 : Int32) (a3 : Int32) (iM : Nat → Int32) (aM : Nat → Nat → Int32) (q : Int32) (h : f_M_isHere_nameLetters N a2 a3 (iM 4) (iM 5) (aM 0) (aM 23) = some q) : Met l yX8_isHere wsX8_isHere ({ frames := 0, cells := 0, slots := 0, locals := 0 } : Room) (cP (dC, dI) cy [.ref (ad 0), .ref (ad 14), .int a2, .int a3] (zzM ad cy iM aM) sz) (cQi (dC, dI) cy q (zzM ad cy iM aM) (va_A (zzM ad cy iM aM) sz)) 0 0 (va_A (zzM ad cy iM aM) sz) := by
  refine Met.ofW (cc := cX8_isHere) (maxL := 6) (ret := (some .boolean)) (by decide) rfl ?_
  intro p e s m args below meth c s₁ B hml hv
  obtain ⟨hav, hsz, hP, hK, hD0, hN⟩ := hv
  have hx := B.exec
  have hb := B.bytes
  have hr := B.returns
  have hts := atoms_spec (ws := wsX8_isHere) B.pre
  have hown : s.vm.findClass RX8 = some m.cls := findClass_of_methodNamed B.named
  have hlocks := B.notSynchronized
  subst hsz
  have hD := hD0.self (sz := s.heap.size)
  generalize hAe : va_A (zzM ad cy iM aM) s.heap.size = A at hD ⊢
  have hA : ∀ q : Nat, s.heap.size ≤ q → A q := fun q h => by rw [← hAe]; exact Or.inr h
  have hS : va_S A s.heap s.heap [] := va_S.rf
  generalize hWQ : (zzM ad cy iM aM) = WQ
  generalize hQQ : MQ below (cQi (dC, dI) cy q WQ A) args s 0 0 A = QQ
  have hl := lv_entry ([.ref (ad 0), .ref (ad 14), .int a2, .int a3] : List Value) (n := 6) (Nat.le_of_ble_eq_true rfl)
  have hfr := lg_entry_eq m ([.ref (ad 0), .ref (ad 14), .int a2, .int a3] : List Value) 6
  rw [← hav] at hfr
  rw [hfr]
  clear hfr hav
  generalize (lg_sl ([.ref (ad 0), .ref (ad 14), .int a2, .int a3] : List Value) ++ List.replicate (6 - (lg_sl ([.ref (ad 0), .ref (ad 14), .int a2, .int a3] : List Value)).length) Slot.unset).toArray = ls at hl ⊢
  have hl : lv_has ls 6 [(0, .ref (ad 0)), (1, .ref (ad 14)), (2, .int a2), (3, .int a3)] := hl
  have kf7 := hts _ (List.mem_cons_of_mem _ m_fl_X8_7)
  have ki8 := (fun w h => List.mem_cons_of_mem _ (i_X8 w h) : ∀ w ∈ u_ws RX8 TX8 78, w ∈ wsX8_isHere)
  have kf169 := hts _ (List.mem_cons_of_mem _ m_fl_X8_169)
  have kf172 := hts _ (List.mem_cons_of_mem _ m_fl_X8_172)
  refine (?_ : ∀ (H : Heap) (locs : List Loc), va_P (dC, dI) vwCl (zzM ad cy iM aM) H → va_D A (zzM ad cy iM aM) → va_S A s.heap H locs → W p l e ({ frames := 0, cells := 0, slots := 0, locals := 0 } : Room) s m args below meth c H locs 0 0 QQ (F0 m 0 ls [])) s.heap [] hP hD hS
  clear hP hD hS
  have B18 : ∀ (n : Nat) (v2 : Int32) (v3 : Int32) (v4 : Int32) (v5 : Int32) (H : Heap) (locs : List Loc) (ls : Array Slot), f_M_isHere_nameLetters_18 N (iM 4) (iM 5) (aM 0) (aM 23) v2 v3 n v4 v5 = some q → va_P (dC, dI) vwCl (zzM ad cy iM aM) H → va_D A (zzM ad cy iM aM) → va_S A s.heap H locs → lv_has ls 6 [(0, .ref (ad 0)), (1, .ref (ad 14)), (2, .int v2), (3, .int v3), (4, .int v4), (5, .int v5)] → W p l e ({ frames := 0, cells := 0, slots := 0, locals := 0 } : Room) s m args below meth c H locs 0 0 QQ (F0 m 18 ls []) := by
    intro n
    induction n with
    | zero =>
      intro v2 v3 v4 v5 H locs ls h hP hD hS hl
      rw [f_M_isHere_nameLetters_18] at h
      cases h
    | succ n ih =>
      intro v2 v3 v4 v5 H locs ls h hP hD hS hl
      rw [f_M_isHere_nameLetters_18] at h
      refine lv_iload hx hb dX8_isHere_18 (lv_at hl 5 rfl) ?_
      refine lv_iload_n hx hb dX8_isHere_20 rfl (lv_at hl 3 rfl) ?_
      refine lv_icmp_ge (tgt := 63) hx hb dX8_isHere_21 (by decide) (fun cz => ?_) (fun cz => ?_)
      · have h := g_t h cz
        refine lv_iload hx hb dX8_isHere_63 (lv_at hl 4 rfl) ?_
        obtain ⟨gz, h⟩ := g_p h
        have h' := Option.some.inj h
        rw [← hQQ]
        exact W.zret (v := v4) hx hb hr (g_zr _ gz) (fun t ht hW => ⟨⟨v4, (), rfl, by rw [← h'], by rw [← hWQ, ht]; exact hP, va_K.moved hW.alike hK⟩, hS.F ht⟩) hS.2.2 dX8_isHere_65
      · have h := g_f h cz
        refine lv_iload hx hb dX8_isHere_24 (lv_at hl 4 rfl) ?_
        refine lv_if_eq (tgt := 63) hx hb dX8_isHere_26 (by decide) (fun cz => ?_) (fun cz => ?_)
        · have h := g_t h cz
          refine lv_iload hx hb dX8_isHere_63 (lv_at hl 4 rfl) ?_
          obtain ⟨gz, h⟩ := g_p h
          have h' := Option.some.inj h
          rw [← hQQ]
          exact W.zret (v := v4) hx hb hr (g_zr _ gz) (fun t ht hW => ⟨⟨v4, (), rfl, by rw [← h'], by rw [← hWQ, ht]; exact hP, va_K.moved hW.alike hK⟩, hS.F ht⟩) hS.2.2 dX8_isHere_65
        · have h := g_f h cz
          refine lv_aload_n hx hb dX8_isHere_29 rfl (lv_at hl 1 rfl) ?_
          refine lv_iload_n hx hb dX8_isHere_30 rfl (lv_at hl 2 rfl) ?_
          refine lv_iload hx hb dX8_isHere_31 (lv_at hl 5 rfl) ?_
          refine lv_iadd hx hb dX8_isHere_33 ?_
          obtain ⟨g_54, h⟩ := g_n h
          refine va_bald (f := (aM 23)) hx hb hK hP 14 1 rfl rfl g_54 dX8_isHere_34 ?_
          refine lv_aload_n hx hb dX8_isHere_35 rfl (lv_at hl 0 rfl) ?_
          refine va_get (D := (dC, dI)) (ci := 8) (v := .ref (ad 1)) (C := RX8) (T := TX8) (N := 78) hx hb hts ki8 hown hK hP 0 rfl rfl 0 (by decide) kf7 (fun _ h9 => h9) rfl dX8_isHere_36 ?_
          refine lv_aload_n hx hb dX8_isHere_39 rfl (lv_at hl 0 rfl) ?_
          refine va_get (D := (dC, dI)) (ci := 8) (v := .int (iM 4)) (C := RX8) (T := TX8) (N := 78) hx hb hts ki8 hown hK hP 0 rfl rfl 4 (by decide) kf169 (fun _ h9 => h9) rfl dX8_isHere_40 ?_
          refine lv_iload hx hb dX8_isHere_43 (lv_at hl 5 rfl) ?_
          refine lv_iadd hx hb dX8_isHere_45 ?_
          obtain ⟨g_50, h⟩ := g_n h
          refine va_bald (f := (aM 0)) hx hb hK hP 1 1 rfl rfl g_50 dX8_isHere_46 ?_
          refine lv_icmp_ne (tgt := 54) hx hb dX8_isHere_47 (by decide) (fun cz => ?_) (fun cz => ?_)
          · have h := g_f h cz
            refine lv_iconst (v := 0) hx hb dX8_isHere_54 (by decide) ?_
            refine lv_istore (lv' := [(4, .int ((0 : Int32))), (0, .ref (ad 0)), (1, .ref (ad 14)), (2, .int v2), (3, .int v3), (5, .int v5)]) hx hb dX8_isHere_55 hl (by decide) rfl (fun ls hl => ?_)
            refine lv_iinc (v := (v5 + (1 : Int32))) (lv' := [(5, .int ((v5 + (1 : Int32)))), (4, .int ((0 : Int32))), (0, .ref (ad 0)), (1, .ref (ad 14)), (2, .int v2), (3, .int v3)]) hx hb dX8_isHere_57 hl (k := 5) rfl rfl (by decide) rfl (fun ls hl => ?_)
            refine lv_goto (tgt := 18) hx hb dX8_isHere_60 (by decide) ?_
            exact ih v2 v3 ((0 : Int32)) ((v5 + (1 : Int32))) H locs ls h hP hD hS (lv_sub hl [2, 3, 4, 5, 1, 0] rfl)
          · have h := g_t h cz
            refine lv_iconst (v := 1) hx hb dX8_isHere_50 (by decide) ?_
            refine lv_goto (tgt := 55) hx hb dX8_isHere_51 (by decide) ?_
            refine lv_istore (lv' := [(4, .int ((1 : Int32))), (0, .ref (ad 0)), (1, .ref (ad 14)), (2, .int v2), (3, .int v3), (5, .int v5)]) hx hb dX8_isHere_55 hl (by decide) rfl (fun ls hl => ?_)
            refine lv_iinc (v := (v5 + (1 : Int32))) (lv' := [(5, .int ((v5 + (1 : Int32)))), (4, .int ((1 : Int32))), (0, .ref (ad 0)), (1, .ref (ad 14)), (2, .int v2), (3, .int v3)]) hx hb dX8_isHere_57 hl (k := 5) rfl rfl (by decide) rfl (fun ls hl => ?_)
            refine lv_goto (tgt := 18) hx hb dX8_isHere_60 (by decide) ?_
            exact ih v2 v3 ((1 : Int32)) ((v5 + (1 : Int32))) H locs ls h hP hD hS (lv_sub hl [2, 3, 4, 5, 1, 0] rfl)
  intro H locs hP hD hS
  unfold f_M_isHere_nameLetters at h
  refine lv_iload_n hx hb dX8_isHere_0 rfl (lv_at hl 3 rfl) ?_
  refine lv_aload_n hx hb dX8_isHere_1 rfl (lv_at hl 0 rfl) ?_
  refine va_get (D := (dC, dI)) (ci := 8) (v := .int (iM 5)) (C := RX8) (T := TX8) (N := 78) hx hb hts ki8 hown hK hP 0 rfl rfl 5 (by decide) kf172 (fun _ h9 => h9) rfl dX8_isHere_2 ?_
  refine lv_icmp_ne (tgt := 12) hx hb dX8_isHere_5 (by decide) (fun cz => ?_) (fun cz => ?_)
  · have h := g_f h cz
    refine lv_iconst (v := 0) hx hb dX8_isHere_12 (by decide) ?_
    refine lv_istore (lv' := [(4, .int ((0 : Int32))), (0, .ref (ad 0)), (1, .ref (ad 14)), (2, .int a2), (3, .int a3)]) hx hb dX8_isHere_13 hl (by decide) rfl (fun ls hl => ?_)
    refine lv_iconst (v := 0) hx hb dX8_isHere_15 (by decide) ?_
    refine lv_istore (lv' := [(5, .int ((0 : Int32))), (4, .int ((0 : Int32))), (0, .ref (ad 0)), (1, .ref (ad 14)), (2, .int a2), (3, .int a3)]) hx hb dX8_isHere_16 hl (by decide) rfl (fun ls hl => ?_)
    exact B18 N a2 a3 ((0 : Int32)) ((0 : Int32)) H locs ls h hP hD hS (lv_sub hl [2, 3, 4, 5, 1, 0] rfl)
  · have h := g_t h cz
    refine lv_iconst (v := 1) hx hb dX8_isHere_8 (by decide) ?_
    refine lv_goto (tgt := 13) hx hb dX8_isHere_9 (by decide) ?_
    refine lv_istore (lv' := [(4, .int ((1 : Int32))), (0, .ref (ad 0)), (1, .ref (ad 14)), (2, .int a2), (3, .int a3)]) hx hb dX8_isHere_13 hl (by decide) rfl (fun ls hl => ?_)
    refine lv_iconst (v := 0) hx hb dX8_isHere_15 (by decide) ?_
    refine lv_istore (lv' := [(5, .int ((0 : Int32))), (4, .int ((1 : Int32))), (0, .ref (ad 0)), (1, .ref (ad 14)), (2, .int a2), (3, .int a3)]) hx hb dX8_isHere_16 hl (by decide) rfl (fun ls hl => ?_)
    exact B18 N a2 a3 ((1 : Int32)) ((0 : Int32)) H locs ls h hP hD hS (lv_sub hl [2, 3, 4, 5, 1, 0] rfl)
set_option maxHeartbeats 8000000 in
set_option maxRecDepth 100000 in
theorem c_M_nameHere (l : Launch) (dC : Nat → ClassId) (dI : Nat → Nat → Nat) (cy : Nat → ClassId) (ad : Nat → Nat) (sz : Nat) (N : Nat) (iM : Nat → Int32) (aM : Nat → Nat → Int32) (q : Int32) (h : f_M_nameHere N (iM 4) (iM 5) (iM 43) (aM 0) (aM 23) (aM 24) = some q) : Met l yX8_nameHere wsX8_nameHere ({ frames := 1, cells := 0, slots := 0, locals := 25 } : Room) (cP (dC, dI) cy [.ref (ad 0)] (zzM ad cy iM aM) sz) (cQi (dC, dI) cy q (zzM ad cy iM aM) (va_A (zzM ad cy iM aM) sz)) 0 0 (va_A (zzM ad cy iM aM) sz) := by
  refine Met.ofW (cc := cX8_nameHere) (maxL := 2) (ret := (some .int)) (by decide) rfl ?_
  intro p e s m args below meth c s₁ B hml hv
  obtain ⟨hav, hsz, hP, hK, hD0, hN⟩ := hv
  have hx := B.exec
  have hb := B.bytes
  have hr := B.returns
  have hts := atoms_spec (ws := wsX8_nameHere) B.pre
  have hown : s.vm.findClass RX8 = some m.cls := findClass_of_methodNamed B.named
  have hlocks := B.notSynchronized
  subst hsz
  have hD := hD0.self (sz := s.heap.size)
  generalize hAe : va_A (zzM ad cy iM aM) s.heap.size = A at hD ⊢
  have hA : ∀ q : Nat, s.heap.size ≤ q → A q := fun q h => by rw [← hAe]; exact Or.inr h
  have hS : va_S A s.heap s.heap [] := va_S.rf
  generalize hWQ : (zzM ad cy iM aM) = WQ
  generalize hQQ : MQ below (cQi (dC, dI) cy q WQ A) args s 0 0 A = QQ
  have hl := lv_entry ([.ref (ad 0)] : List Value) (n := 2) (Nat.le_of_ble_eq_true rfl)
  have hfr := lg_entry_eq m ([.ref (ad 0)] : List Value) 2
  rw [← hav] at hfr
  rw [hfr]
  clear hfr hav
  generalize (lg_sl ([.ref (ad 0)] : List Value) ++ List.replicate (2 - (lg_sl ([.ref (ad 0)] : List Value)).length) Slot.unset).toArray = ls at hl ⊢
  have hl : lv_has ls 2 [(0, .ref (ad 0))] := hl
  have kf214 := hts _ (List.mem_cons_of_mem _ m_fl_X8_214)
  have ki8 := (fun w h => List.mem_cons_of_mem _ (i_X8 w h) : ∀ w ∈ u_ws RX8 TX8 78, w ∈ wsX8_nameHere)
  have kf51 := hts _ (List.mem_cons_of_mem _ m_fl_X8_51)
  have kf54 := hts _ (List.mem_cons_of_mem _ m_fl_X8_54)
  refine (?_ : ∀ (H : Heap) (locs : List Loc), va_P (dC, dI) vwCl (zzM ad cy iM aM) H → va_D A (zzM ad cy iM aM) → va_S A s.heap H locs → W p l e ({ frames := 1, cells := 0, slots := 0, locals := 25 } : Room) s m args below meth c H locs 0 0 QQ (F0 m 0 ls [])) s.heap [] hP hD hS
  clear hP hD hS
  have B2 : ∀ (n : Nat) (v1 : Int32) (H : Heap) (locs : List Loc) (ls : Array Slot), f_M_nameHere_2 N (iM 4) (iM 5) (iM 43) (aM 0) (aM 23) (aM 24) n v1 = some q → va_P (dC, dI) vwCl (zzM ad cy iM aM) H → va_D A (zzM ad cy iM aM) → va_S A s.heap H locs → lv_has ls 2 [(0, .ref (ad 0)), (1, .int v1)] → W p l e ({ frames := 1, cells := 0, slots := 0, locals := 25 } : Room) s m args below meth c H locs 0 0 QQ (F0 m 2 ls []) := by
    intro n
    induction n with
    | zero =>
      intro v1 H locs ls h hP hD hS hl
      rw [f_M_nameHere_2] at h
      cases h
    | succ n ih =>
      intro v1 H locs ls h hP hD hS hl
      rw [f_M_nameHere_2] at h
      refine lv_iload_n hx hb dX8_nameHere_2 rfl (lv_at hl 1 rfl) ?_
      refine lv_aload_n hx hb dX8_nameHere_3 rfl (lv_at hl 0 rfl) ?_
      refine va_get (D := (dC, dI)) (ci := 8) (v := .int (iM 43)) (C := RX8) (T := TX8) (N := 78) hx hb hts ki8 hown hK hP 0 rfl rfl 43 (by decide) kf214 (fun _ h9 => h9) rfl dX8_nameHere_4 ?_
      refine lv_icmp_ge (tgt := 43) hx hb dX8_nameHere_7 (by decide) (fun cz => ?_) (fun cz => ?_)
      · have h := g_t h cz
        refine lv_iconst (v := (-1)) hx hb dX8_nameHere_43 (by decide) ?_
        have h' := Option.some.inj h
        rw [← hQQ]
        exact W.iret (v := (-1 : Int32)) hx hb hr (fun t ht hW => ⟨⟨(-1 : Int32), (), rfl, by rw [← h'], by rw [← hWQ, ht]; exact hP, va_K.moved hW.alike hK⟩, hS.F ht⟩) hS.2.2 dX8_nameHere_44
      · have h := g_f h cz
        refine lv_aload_n hx hb dX8_nameHere_10 rfl (lv_at hl 0 rfl) ?_
        refine lv_aload_n hx hb dX8_nameHere_11 rfl (lv_at hl 0 rfl) ?_
        refine va_get (D := (dC, dI)) (ci := 8) (v := .ref (ad 14)) (C := RX8) (T := TX8) (N := 78) hx hb hts ki8 hown hK hP 0 rfl rfl 23 (by decide) kf51 (fun _ h9 => h9) rfl dX8_nameHere_12 ?_
        refine lv_bipush (v := 8) hx hb dX8_nameHere_15 (by decide) ?_
        refine lv_iconst (v := 5) hx hb dX8_nameHere_17 (by decide) ?_
        refine lv_iload_n hx hb dX8_nameHere_18 rfl (lv_at hl 1 rfl) ?_
        refine lv_iadd hx hb dX8_nameHere_19 ?_
        refine lv_imul hx hb dX8_nameHere_20 ?_
        refine lv_aload_n hx hb dX8_nameHere_21 rfl (lv_at hl 0 rfl) ?_
        refine va_get (D := (dC, dI)) (ci := 8) (v := .ref (ad 15)) (C := RX8) (T := TX8) (N := 78) hx hb hts ki8 hown hK hP 0 rfl rfl 24 (by decide) kf54 (fun _ h9 => h9) rfl dX8_nameHere_22 ?_
        refine lv_iconst (v := 5) hx hb dX8_nameHere_25 (by decide) ?_
        refine lv_iload_n hx hb dX8_nameHere_26 rfl (lv_at hl 1 rfl) ?_
        refine lv_iadd hx hb dX8_nameHere_27 ?_
        obtain ⟨g_55, h⟩ := g_n h
        refine va_iald (f := (aM 24)) hx hb hK hP 15 0 rfl rfl g_55 dX8_nameHere_28 ?_
        obtain ⟨q29, e29, h⟩ := g_b h
        refine callVis (cc := cX8_nameHere) (w1 := zzM ad cy iM aM) (As := [.ref (ad 14), .int (((8 : Int32) * ((5 : Int32) + v1))), .int (((aM 24) (((5 : Int32) + v1)).toNatClampNeg))]) (rest := []) ⟨hx, hb, hml, hown, hts⟩ (c_M_isHere_nameLetters l dC dI cy ad H.size N (((8 : Int32) * ((5 : Int32) + v1))) (((aM 24) (((5 : Int32) + v1)).toNatClampNeg)) iM aM q29 e29) (cwV 3 hts (goodV m_ml_X8_217 m_im_X8_isHere m_se_X8_isHere m_in_X8 m_cd_X8_isHere) rfl rfl rfl (by decide +kernel) ⟨Nat.le_of_ble_eq_true rfl, Nat.le_of_ble_eq_true rfl⟩) hN hK hP hD hS hA rfl 0 rfl rfl rfl hl.1 rfl (Nat.le_of_ble_eq_true rfl) dX8_nameHere_29 ⟨Nat.zero_le _, Nat.zero_le _⟩ (fun H locs hP hD hS => ?_)
        refine lv_if_eq (tgt := 37) hx hb dX8_nameHere_32 (by decide) (fun cz => ?_) (fun cz => ?_)
        · have h := g_t h cz
          refine lv_iinc (v := (v1 + (1 : Int32))) (lv' := [(1, .int ((v1 + (1 : Int32)))), (0, .ref (ad 0))]) hx hb dX8_nameHere_37 hl (k := 1) rfl rfl (by decide) rfl (fun ls hl => ?_)
          refine lv_goto (tgt := 2) hx hb dX8_nameHere_40 (by decide) ?_
          exact ih ((v1 + (1 : Int32))) H locs ls h hP hD hS (lv_sub hl [1, 0] rfl)
        · have h := g_f h cz
          refine lv_iload_n hx hb dX8_nameHere_35 rfl (lv_at hl 1 rfl) ?_
          have h' := Option.some.inj h
          rw [← hQQ]
          exact W.iret (v := v1) hx hb hr (fun t ht hW => ⟨⟨v1, (), rfl, by rw [← h'], by rw [← hWQ, ht]; exact hP, va_K.moved hW.alike hK⟩, hS.F ht⟩) hS.2.2 dX8_nameHere_36
  intro H locs hP hD hS
  unfold f_M_nameHere at h
  refine lv_iconst (v := 0) hx hb dX8_nameHere_0 (by decide) ?_
  refine lv_istore_n (lv' := [(1, .int ((0 : Int32))), (0, .ref (ad 0))]) hx hb dX8_nameHere_1 rfl hl (by decide) rfl (fun ls hl => ?_)
  exact B2 N ((0 : Int32)) H locs ls h hP hD hS (lv_sub hl [1, 0] rfl)
set_option maxHeartbeats 8000000 in
set_option maxRecDepth 100000 in
theorem c_M_isHere_roleLetters (l : Launch) (dC : Nat → ClassId) (dI : Nat → Nat → Nat) (cy : Nat → ClassId) (ad : Nat → Nat) (sz : Nat) (N : Nat) (a2 : Int32) (a3 : Int32) (iM : Nat → Int32) (aM : Nat → Nat → Int32) (q : Int32) (h : f_M_isHere_roleLetters N a2 a3 (iM 4) (iM 5) (aM 0) (aM 26) = some q) : Met l yX8_isHere wsX8_isHere ({ frames := 0, cells := 0, slots := 0, locals := 0 } : Room) (cP (dC, dI) cy [.ref (ad 0), .ref (ad 16), .int a2, .int a3] (zzM ad cy iM aM) sz) (cQi (dC, dI) cy q (zzM ad cy iM aM) (va_A (zzM ad cy iM aM) sz)) 0 0 (va_A (zzM ad cy iM aM) sz) := by
  refine Met.ofW (cc := cX8_isHere) (maxL := 6) (ret := (some .boolean)) (by decide) rfl ?_
  intro p e s m args below meth c s₁ B hml hv
  obtain ⟨hav, hsz, hP, hK, hD0, hN⟩ := hv
  have hx := B.exec
  have hb := B.bytes
  have hr := B.returns
  have hts := atoms_spec (ws := wsX8_isHere) B.pre
  have hown : s.vm.findClass RX8 = some m.cls := findClass_of_methodNamed B.named
  have hlocks := B.notSynchronized
  subst hsz
  have hD := hD0.self (sz := s.heap.size)
  generalize hAe : va_A (zzM ad cy iM aM) s.heap.size = A at hD ⊢
  have hA : ∀ q : Nat, s.heap.size ≤ q → A q := fun q h => by rw [← hAe]; exact Or.inr h
  have hS : va_S A s.heap s.heap [] := va_S.rf
  generalize hWQ : (zzM ad cy iM aM) = WQ
  generalize hQQ : MQ below (cQi (dC, dI) cy q WQ A) args s 0 0 A = QQ
  have hl := lv_entry ([.ref (ad 0), .ref (ad 16), .int a2, .int a3] : List Value) (n := 6) (Nat.le_of_ble_eq_true rfl)
  have hfr := lg_entry_eq m ([.ref (ad 0), .ref (ad 16), .int a2, .int a3] : List Value) 6
  rw [← hav] at hfr
  rw [hfr]
  clear hfr hav
  generalize (lg_sl ([.ref (ad 0), .ref (ad 16), .int a2, .int a3] : List Value) ++ List.replicate (6 - (lg_sl ([.ref (ad 0), .ref (ad 16), .int a2, .int a3] : List Value)).length) Slot.unset).toArray = ls at hl ⊢
  have hl : lv_has ls 6 [(0, .ref (ad 0)), (1, .ref (ad 16)), (2, .int a2), (3, .int a3)] := hl
  have kf7 := hts _ (List.mem_cons_of_mem _ m_fl_X8_7)
  have ki8 := (fun w h => List.mem_cons_of_mem _ (i_X8 w h) : ∀ w ∈ u_ws RX8 TX8 78, w ∈ wsX8_isHere)
  have kf169 := hts _ (List.mem_cons_of_mem _ m_fl_X8_169)
  have kf172 := hts _ (List.mem_cons_of_mem _ m_fl_X8_172)
  refine (?_ : ∀ (H : Heap) (locs : List Loc), va_P (dC, dI) vwCl (zzM ad cy iM aM) H → va_D A (zzM ad cy iM aM) → va_S A s.heap H locs → W p l e ({ frames := 0, cells := 0, slots := 0, locals := 0 } : Room) s m args below meth c H locs 0 0 QQ (F0 m 0 ls [])) s.heap [] hP hD hS
  clear hP hD hS
  have B18 : ∀ (n : Nat) (v2 : Int32) (v3 : Int32) (v4 : Int32) (v5 : Int32) (H : Heap) (locs : List Loc) (ls : Array Slot), f_M_isHere_roleLetters_18 N (iM 4) (iM 5) (aM 0) (aM 26) v2 v3 n v4 v5 = some q → va_P (dC, dI) vwCl (zzM ad cy iM aM) H → va_D A (zzM ad cy iM aM) → va_S A s.heap H locs → lv_has ls 6 [(0, .ref (ad 0)), (1, .ref (ad 16)), (2, .int v2), (3, .int v3), (4, .int v4), (5, .int v5)] → W p l e ({ frames := 0, cells := 0, slots := 0, locals := 0 } : Room) s m args below meth c H locs 0 0 QQ (F0 m 18 ls []) := by
    intro n
    induction n with
    | zero =>
      intro v2 v3 v4 v5 H locs ls h hP hD hS hl
      rw [f_M_isHere_roleLetters_18] at h
      cases h
    | succ n ih =>
      intro v2 v3 v4 v5 H locs ls h hP hD hS hl
      rw [f_M_isHere_roleLetters_18] at h
      refine lv_iload hx hb dX8_isHere_18 (lv_at hl 5 rfl) ?_
      refine lv_iload_n hx hb dX8_isHere_20 rfl (lv_at hl 3 rfl) ?_
      refine lv_icmp_ge (tgt := 63) hx hb dX8_isHere_21 (by decide) (fun cz => ?_) (fun cz => ?_)
      · have h := g_t h cz
        refine lv_iload hx hb dX8_isHere_63 (lv_at hl 4 rfl) ?_
        obtain ⟨gz, h⟩ := g_p h
        have h' := Option.some.inj h
        rw [← hQQ]
        exact W.zret (v := v4) hx hb hr (g_zr _ gz) (fun t ht hW => ⟨⟨v4, (), rfl, by rw [← h'], by rw [← hWQ, ht]; exact hP, va_K.moved hW.alike hK⟩, hS.F ht⟩) hS.2.2 dX8_isHere_65
      · have h := g_f h cz
        refine lv_iload hx hb dX8_isHere_24 (lv_at hl 4 rfl) ?_
        refine lv_if_eq (tgt := 63) hx hb dX8_isHere_26 (by decide) (fun cz => ?_) (fun cz => ?_)
        · have h := g_t h cz
          refine lv_iload hx hb dX8_isHere_63 (lv_at hl 4 rfl) ?_
          obtain ⟨gz, h⟩ := g_p h
          have h' := Option.some.inj h
          rw [← hQQ]
          exact W.zret (v := v4) hx hb hr (g_zr _ gz) (fun t ht hW => ⟨⟨v4, (), rfl, by rw [← h'], by rw [← hWQ, ht]; exact hP, va_K.moved hW.alike hK⟩, hS.F ht⟩) hS.2.2 dX8_isHere_65
        · have h := g_f h cz
          refine lv_aload_n hx hb dX8_isHere_29 rfl (lv_at hl 1 rfl) ?_
          refine lv_iload_n hx hb dX8_isHere_30 rfl (lv_at hl 2 rfl) ?_
          refine lv_iload hx hb dX8_isHere_31 (lv_at hl 5 rfl) ?_
          refine lv_iadd hx hb dX8_isHere_33 ?_
          obtain ⟨g_56, h⟩ := g_n h
          refine va_bald (f := (aM 26)) hx hb hK hP 16 1 rfl rfl g_56 dX8_isHere_34 ?_
          refine lv_aload_n hx hb dX8_isHere_35 rfl (lv_at hl 0 rfl) ?_
          refine va_get (D := (dC, dI)) (ci := 8) (v := .ref (ad 1)) (C := RX8) (T := TX8) (N := 78) hx hb hts ki8 hown hK hP 0 rfl rfl 0 (by decide) kf7 (fun _ h9 => h9) rfl dX8_isHere_36 ?_
          refine lv_aload_n hx hb dX8_isHere_39 rfl (lv_at hl 0 rfl) ?_
          refine va_get (D := (dC, dI)) (ci := 8) (v := .int (iM 4)) (C := RX8) (T := TX8) (N := 78) hx hb hts ki8 hown hK hP 0 rfl rfl 4 (by decide) kf169 (fun _ h9 => h9) rfl dX8_isHere_40 ?_
          refine lv_iload hx hb dX8_isHere_43 (lv_at hl 5 rfl) ?_
          refine lv_iadd hx hb dX8_isHere_45 ?_
          obtain ⟨g_50, h⟩ := g_n h
          refine va_bald (f := (aM 0)) hx hb hK hP 1 1 rfl rfl g_50 dX8_isHere_46 ?_
          refine lv_icmp_ne (tgt := 54) hx hb dX8_isHere_47 (by decide) (fun cz => ?_) (fun cz => ?_)
          · have h := g_f h cz
            refine lv_iconst (v := 0) hx hb dX8_isHere_54 (by decide) ?_
            refine lv_istore (lv' := [(4, .int ((0 : Int32))), (0, .ref (ad 0)), (1, .ref (ad 16)), (2, .int v2), (3, .int v3), (5, .int v5)]) hx hb dX8_isHere_55 hl (by decide) rfl (fun ls hl => ?_)
            refine lv_iinc (v := (v5 + (1 : Int32))) (lv' := [(5, .int ((v5 + (1 : Int32)))), (4, .int ((0 : Int32))), (0, .ref (ad 0)), (1, .ref (ad 16)), (2, .int v2), (3, .int v3)]) hx hb dX8_isHere_57 hl (k := 5) rfl rfl (by decide) rfl (fun ls hl => ?_)
            refine lv_goto (tgt := 18) hx hb dX8_isHere_60 (by decide) ?_
            exact ih v2 v3 ((0 : Int32)) ((v5 + (1 : Int32))) H locs ls h hP hD hS (lv_sub hl [2, 3, 4, 5, 1, 0] rfl)
          · have h := g_t h cz
            refine lv_iconst (v := 1) hx hb dX8_isHere_50 (by decide) ?_
            refine lv_goto (tgt := 55) hx hb dX8_isHere_51 (by decide) ?_
            refine lv_istore (lv' := [(4, .int ((1 : Int32))), (0, .ref (ad 0)), (1, .ref (ad 16)), (2, .int v2), (3, .int v3), (5, .int v5)]) hx hb dX8_isHere_55 hl (by decide) rfl (fun ls hl => ?_)
            refine lv_iinc (v := (v5 + (1 : Int32))) (lv' := [(5, .int ((v5 + (1 : Int32)))), (4, .int ((1 : Int32))), (0, .ref (ad 0)), (1, .ref (ad 16)), (2, .int v2), (3, .int v3)]) hx hb dX8_isHere_57 hl (k := 5) rfl rfl (by decide) rfl (fun ls hl => ?_)
            refine lv_goto (tgt := 18) hx hb dX8_isHere_60 (by decide) ?_
            exact ih v2 v3 ((1 : Int32)) ((v5 + (1 : Int32))) H locs ls h hP hD hS (lv_sub hl [2, 3, 4, 5, 1, 0] rfl)
  intro H locs hP hD hS
  unfold f_M_isHere_roleLetters at h
  refine lv_iload_n hx hb dX8_isHere_0 rfl (lv_at hl 3 rfl) ?_
  refine lv_aload_n hx hb dX8_isHere_1 rfl (lv_at hl 0 rfl) ?_
  refine va_get (D := (dC, dI)) (ci := 8) (v := .int (iM 5)) (C := RX8) (T := TX8) (N := 78) hx hb hts ki8 hown hK hP 0 rfl rfl 5 (by decide) kf172 (fun _ h9 => h9) rfl dX8_isHere_2 ?_
  refine lv_icmp_ne (tgt := 12) hx hb dX8_isHere_5 (by decide) (fun cz => ?_) (fun cz => ?_)
  · have h := g_f h cz
    refine lv_iconst (v := 0) hx hb dX8_isHere_12 (by decide) ?_
    refine lv_istore (lv' := [(4, .int ((0 : Int32))), (0, .ref (ad 0)), (1, .ref (ad 16)), (2, .int a2), (3, .int a3)]) hx hb dX8_isHere_13 hl (by decide) rfl (fun ls hl => ?_)
    refine lv_iconst (v := 0) hx hb dX8_isHere_15 (by decide) ?_
    refine lv_istore (lv' := [(5, .int ((0 : Int32))), (4, .int ((0 : Int32))), (0, .ref (ad 0)), (1, .ref (ad 16)), (2, .int a2), (3, .int a3)]) hx hb dX8_isHere_16 hl (by decide) rfl (fun ls hl => ?_)
    exact B18 N a2 a3 ((0 : Int32)) ((0 : Int32)) H locs ls h hP hD hS (lv_sub hl [2, 3, 4, 5, 1, 0] rfl)
  · have h := g_t h cz
    refine lv_iconst (v := 1) hx hb dX8_isHere_8 (by decide) ?_
    refine lv_goto (tgt := 13) hx hb dX8_isHere_9 (by decide) ?_
    refine lv_istore (lv' := [(4, .int ((1 : Int32))), (0, .ref (ad 0)), (1, .ref (ad 16)), (2, .int a2), (3, .int a3)]) hx hb dX8_isHere_13 hl (by decide) rfl (fun ls hl => ?_)
    refine lv_iconst (v := 0) hx hb dX8_isHere_15 (by decide) ?_
    refine lv_istore (lv' := [(5, .int ((0 : Int32))), (4, .int ((1 : Int32))), (0, .ref (ad 0)), (1, .ref (ad 16)), (2, .int a2), (3, .int a3)]) hx hb dX8_isHere_16 hl (by decide) rfl (fun ls hl => ?_)
    exact B18 N a2 a3 ((1 : Int32)) ((0 : Int32)) H locs ls h hP hD hS (lv_sub hl [2, 3, 4, 5, 1, 0] rfl)
set_option maxHeartbeats 8000000 in
set_option maxRecDepth 100000 in
theorem c_M_roleHere (l : Launch) (dC : Nat → ClassId) (dI : Nat → Nat → Nat) (cy : Nat → ClassId) (ad : Nat → Nat) (sz : Nat) (N : Nat) (iM : Nat → Int32) (aM : Nat → Nat → Int32) (q : Int32) (h : f_M_roleHere N (iM 4) (iM 5) (iM 44) (aM 0) (aM 26) (aM 27) = some q) : Met l yX8_roleHere wsX8_roleHere ({ frames := 1, cells := 0, slots := 0, locals := 25 } : Room) (cP (dC, dI) cy [.ref (ad 0)] (zzM ad cy iM aM) sz) (cQi (dC, dI) cy q (zzM ad cy iM aM) (va_A (zzM ad cy iM aM) sz)) 0 0 (va_A (zzM ad cy iM aM) sz) := by
  refine Met.ofW (cc := cX8_roleHere) (maxL := 2) (ret := (some .int)) (by decide) rfl ?_
  intro p e s m args below meth c s₁ B hml hv
  obtain ⟨hav, hsz, hP, hK, hD0, hN⟩ := hv
  have hx := B.exec
  have hb := B.bytes
  have hr := B.returns
  have hts := atoms_spec (ws := wsX8_roleHere) B.pre
  have hown : s.vm.findClass RX8 = some m.cls := findClass_of_methodNamed B.named
  have hlocks := B.notSynchronized
  subst hsz
  have hD := hD0.self (sz := s.heap.size)
  generalize hAe : va_A (zzM ad cy iM aM) s.heap.size = A at hD ⊢
  have hA : ∀ q : Nat, s.heap.size ≤ q → A q := fun q h => by rw [← hAe]; exact Or.inr h
  have hS : va_S A s.heap s.heap [] := va_S.rf
  generalize hWQ : (zzM ad cy iM aM) = WQ
  generalize hQQ : MQ below (cQi (dC, dI) cy q WQ A) args s 0 0 A = QQ
  have hl := lv_entry ([.ref (ad 0)] : List Value) (n := 2) (Nat.le_of_ble_eq_true rfl)
  have hfr := lg_entry_eq m ([.ref (ad 0)] : List Value) 2
  rw [← hav] at hfr
  rw [hfr]
  clear hfr hav
  generalize (lg_sl ([.ref (ad 0)] : List Value) ++ List.replicate (2 - (lg_sl ([.ref (ad 0)] : List Value)).length) Slot.unset).toArray = ls at hl ⊢
  have hl : lv_has ls 2 [(0, .ref (ad 0))] := hl
  have kf221 := hts _ (List.mem_cons_of_mem _ m_fl_X8_221)
  have ki8 := (fun w h => List.mem_cons_of_mem _ (i_X8 w h) : ∀ w ∈ u_ws RX8 TX8 78, w ∈ wsX8_roleHere)
  have kf57 := hts _ (List.mem_cons_of_mem _ m_fl_X8_57)
  have kf60 := hts _ (List.mem_cons_of_mem _ m_fl_X8_60)
  refine (?_ : ∀ (H : Heap) (locs : List Loc), va_P (dC, dI) vwCl (zzM ad cy iM aM) H → va_D A (zzM ad cy iM aM) → va_S A s.heap H locs → W p l e ({ frames := 1, cells := 0, slots := 0, locals := 25 } : Room) s m args below meth c H locs 0 0 QQ (F0 m 0 ls [])) s.heap [] hP hD hS
  clear hP hD hS
  have B2 : ∀ (n : Nat) (v1 : Int32) (H : Heap) (locs : List Loc) (ls : Array Slot), f_M_roleHere_2 N (iM 4) (iM 5) (iM 44) (aM 0) (aM 26) (aM 27) n v1 = some q → va_P (dC, dI) vwCl (zzM ad cy iM aM) H → va_D A (zzM ad cy iM aM) → va_S A s.heap H locs → lv_has ls 2 [(0, .ref (ad 0)), (1, .int v1)] → W p l e ({ frames := 1, cells := 0, slots := 0, locals := 25 } : Room) s m args below meth c H locs 0 0 QQ (F0 m 2 ls []) := by
    intro n
    induction n with
    | zero =>
      intro v1 H locs ls h hP hD hS hl
      rw [f_M_roleHere_2] at h
      cases h
    | succ n ih =>
      intro v1 H locs ls h hP hD hS hl
      rw [f_M_roleHere_2] at h
      refine lv_iload_n hx hb dX8_roleHere_2 rfl (lv_at hl 1 rfl) ?_
      refine lv_aload_n hx hb dX8_roleHere_3 rfl (lv_at hl 0 rfl) ?_
      refine va_get (D := (dC, dI)) (ci := 8) (v := .int (iM 44)) (C := RX8) (T := TX8) (N := 78) hx hb hts ki8 hown hK hP 0 rfl rfl 44 (by decide) kf221 (fun _ h9 => h9) rfl dX8_roleHere_4 ?_
      refine lv_icmp_ge (tgt := 43) hx hb dX8_roleHere_7 (by decide) (fun cz => ?_) (fun cz => ?_)
      · have h := g_t h cz
        refine lv_iconst (v := (-1)) hx hb dX8_roleHere_43 (by decide) ?_
        have h' := Option.some.inj h
        rw [← hQQ]
        exact W.iret (v := (-1 : Int32)) hx hb hr (fun t ht hW => ⟨⟨(-1 : Int32), (), rfl, by rw [← h'], by rw [← hWQ, ht]; exact hP, va_K.moved hW.alike hK⟩, hS.F ht⟩) hS.2.2 dX8_roleHere_44
      · have h := g_f h cz
        refine lv_aload_n hx hb dX8_roleHere_10 rfl (lv_at hl 0 rfl) ?_
        refine lv_aload_n hx hb dX8_roleHere_11 rfl (lv_at hl 0 rfl) ?_
        refine va_get (D := (dC, dI)) (ci := 8) (v := .ref (ad 16)) (C := RX8) (T := TX8) (N := 78) hx hb hts ki8 hown hK hP 0 rfl rfl 26 (by decide) kf57 (fun _ h9 => h9) rfl dX8_roleHere_12 ?_
        refine lv_bipush (v := 8) hx hb dX8_roleHere_15 (by decide) ?_
        refine lv_iconst (v := 3) hx hb dX8_roleHere_17 (by decide) ?_
        refine lv_iload_n hx hb dX8_roleHere_18 rfl (lv_at hl 1 rfl) ?_
        refine lv_iadd hx hb dX8_roleHere_19 ?_
        refine lv_imul hx hb dX8_roleHere_20 ?_
        refine lv_aload_n hx hb dX8_roleHere_21 rfl (lv_at hl 0 rfl) ?_
        refine va_get (D := (dC, dI)) (ci := 8) (v := .ref (ad 17)) (C := RX8) (T := TX8) (N := 78) hx hb hts ki8 hown hK hP 0 rfl rfl 27 (by decide) kf60 (fun _ h9 => h9) rfl dX8_roleHere_22 ?_
        refine lv_iconst (v := 3) hx hb dX8_roleHere_25 (by decide) ?_
        refine lv_iload_n hx hb dX8_roleHere_26 rfl (lv_at hl 1 rfl) ?_
        refine lv_iadd hx hb dX8_roleHere_27 ?_
        obtain ⟨g_57, h⟩ := g_n h
        refine va_iald (f := (aM 27)) hx hb hK hP 17 0 rfl rfl g_57 dX8_roleHere_28 ?_
        obtain ⟨q29, e29, h⟩ := g_b h
        refine callVis (cc := cX8_roleHere) (w1 := zzM ad cy iM aM) (As := [.ref (ad 16), .int (((8 : Int32) * ((3 : Int32) + v1))), .int (((aM 27) (((3 : Int32) + v1)).toNatClampNeg))]) (rest := []) ⟨hx, hb, hml, hown, hts⟩ (c_M_isHere_roleLetters l dC dI cy ad H.size N (((8 : Int32) * ((3 : Int32) + v1))) (((aM 27) (((3 : Int32) + v1)).toNatClampNeg)) iM aM q29 e29) (cwV 3 hts (goodV m_ml_X8_217 m_im_X8_isHere m_se_X8_isHere m_in_X8 m_cd_X8_isHere) rfl rfl rfl (by decide +kernel) ⟨Nat.le_of_ble_eq_true rfl, Nat.le_of_ble_eq_true rfl⟩) hN hK hP hD hS hA rfl 0 rfl rfl rfl hl.1 rfl (Nat.le_of_ble_eq_true rfl) dX8_roleHere_29 ⟨Nat.zero_le _, Nat.zero_le _⟩ (fun H locs hP hD hS => ?_)
        refine lv_if_eq (tgt := 37) hx hb dX8_roleHere_32 (by decide) (fun cz => ?_) (fun cz => ?_)
        · have h := g_t h cz
          refine lv_iinc (v := (v1 + (1 : Int32))) (lv' := [(1, .int ((v1 + (1 : Int32)))), (0, .ref (ad 0))]) hx hb dX8_roleHere_37 hl (k := 1) rfl rfl (by decide) rfl (fun ls hl => ?_)
          refine lv_goto (tgt := 2) hx hb dX8_roleHere_40 (by decide) ?_
          exact ih ((v1 + (1 : Int32))) H locs ls h hP hD hS (lv_sub hl [1, 0] rfl)
        · have h := g_f h cz
          refine lv_iload_n hx hb dX8_roleHere_35 rfl (lv_at hl 1 rfl) ?_
          have h' := Option.some.inj h
          rw [← hQQ]
          exact W.iret (v := v1) hx hb hr (fun t ht hW => ⟨⟨v1, (), rfl, by rw [← h'], by rw [← hWQ, ht]; exact hP, va_K.moved hW.alike hK⟩, hS.F ht⟩) hS.2.2 dX8_roleHere_36
  intro H locs hP hD hS
  unfold f_M_roleHere at h
  refine lv_iconst (v := 0) hx hb dX8_roleHere_0 (by decide) ?_
  refine lv_istore_n (lv' := [(1, .int ((0 : Int32))), (0, .ref (ad 0))]) hx hb dX8_roleHere_1 rfl hl (by decide) rfl (fun ls hl => ?_)
  exact B2 N ((0 : Int32)) H locs ls h hP hD hS (lv_sub hl [1, 0] rfl)
set_option maxHeartbeats 8000000 in
set_option maxRecDepth 100000 in
theorem c_M_readRole (l : Launch) (dC : Nat → ClassId) (dI : Nat → Nat → Nat) (cy : Nat → ClassId) (ad : Nat → Nat) (sz : Nat) (N : Nat) (iM : Nat → Int32) (aM : Nat → Nat → Int32) (q : Int32 × Int32 × Int32 × Int32 × (Nat → Int32) × (Nat → Int32) × (Nat → Int32) × (Nat → Int32)) (h : f_M_readRole N (iM 3) (iM 4) (iM 5) (iM 43) (iM 44) (iM 46) (iM 47) (aM 0) (aM 7) (aM 23) (aM 24) (aM 26) (aM 27) (aM 29) (aM 31) = some q) : Met l yX8_readRole wsX8_readRole ({ frames := 2, cells := 0, slots := 0, locals := 46 } : Room) (cP (dC, dI) cy [.ref (ad 0)] (zzM ad cy iM aM) sz) (cQi (dC, dI) cy q.1 (zzM ad cy (us iM [(44, q.2.1), (46, q.2.2.1), (47, q.2.2.2.1)]) (us aM [(26, q.2.2.2.2.1), (27, q.2.2.2.2.2.1), (29, q.2.2.2.2.2.2.1), (31, q.2.2.2.2.2.2.2)])) (va_A (zzM ad cy iM aM) sz)) 0 0 (va_A (zzM ad cy iM aM) sz) := by
  refine Met.ofW (cc := cX8_readRole) (maxL := 3) (ret := (some .int)) (by decide) rfl ?_
  intro p e s m args below meth c s₁ B hml hv
  obtain ⟨hav, hsz, hP, hK, hD0, hN⟩ := hv
  have hx := B.exec
  have hb := B.bytes
  have hr := B.returns
  have hts := atoms_spec (ws := wsX8_readRole) B.pre
  have hown : s.vm.findClass RX8 = some m.cls := findClass_of_methodNamed B.named
  have hlocks := B.notSynchronized
  subst hsz
  have hD := hD0.self (sz := s.heap.size)
  generalize hAe : va_A (zzM ad cy iM aM) s.heap.size = A at hD ⊢
  have hA : ∀ q : Nat, s.heap.size ≤ q → A q := fun q h => by rw [← hAe]; exact Or.inr h
  have hS : va_S A s.heap s.heap [] := va_S.rf
  generalize hWQ : (zzM ad cy (us iM [(44, q.2.1), (46, q.2.2.1), (47, q.2.2.2.1)]) (us aM [(26, q.2.2.2.2.1), (27, q.2.2.2.2.2.1), (29, q.2.2.2.2.2.2.1), (31, q.2.2.2.2.2.2.2)])) = WQ
  generalize hQQ : MQ below (cQi (dC, dI) cy q.1 WQ A) args s 0 0 A = QQ
  have hl := lv_entry ([.ref (ad 0)] : List Value) (n := 3) (Nat.le_of_ble_eq_true rfl)
  have hfr := lg_entry_eq m ([.ref (ad 0)] : List Value) 3
  rw [← hav] at hfr
  rw [hfr]
  clear hfr hav
  generalize (lg_sl ([.ref (ad 0)] : List Value) ++ List.replicate (3 - (lg_sl ([.ref (ad 0)] : List Value)).length) Slot.unset).toArray = ls at hl ⊢
  have hl : lv_has ls 3 [(0, .ref (ad 0))] := hl
  have kf172 := hts _ (List.mem_cons_of_mem _ m_fl_X8_172)
  have ki8 := (fun w h => List.mem_cons_of_mem _ (i_X8 w h) : ∀ w ∈ u_ws RX8 TX8 78, w ∈ wsX8_readRole)
  have kf60 := hts _ (List.mem_cons_of_mem _ m_fl_X8_60)
  have kf63 := hts _ (List.mem_cons_of_mem _ m_fl_X8_63)
  have kf70 := hts _ (List.mem_cons_of_mem _ m_fl_X8_70)
  have kf221 := hts _ (List.mem_cons_of_mem _ m_fl_X8_221)
  have kf57 := hts _ (List.mem_cons_of_mem _ m_fl_X8_57)
  have kf7 := hts _ (List.mem_cons_of_mem _ m_fl_X8_7)
  have kf169 := hts _ (List.mem_cons_of_mem _ m_fl_X8_169)
  have kf178 := hts _ (List.mem_cons_of_mem _ m_fl_X8_178)
  refine (?_ : ∀ (H : Heap) (locs : List Loc), va_P (dC, dI) vwCl (zzM ad cy iM aM) H → va_D A (zzM ad cy iM aM) → va_S A s.heap H locs → W p l e ({ frames := 2, cells := 0, slots := 0, locals := 46 } : Room) s m args below meth c H locs 0 0 QQ (F0 m 0 ls [])) s.heap [] hP hD hS
  clear hP hD hS
  have B85 : ∀ (n : Nat) (v1 : Int32) (v2 : Int32) (x_aM26 : Nat → Int32) (H : Heap) (locs : List Loc) (ls : Array Slot), f_M_readRole_85 N (iM 3) (iM 4) (iM 5) (iM 43) (iM 44) (iM 46) (iM 47) (aM 0) (aM 7) (aM 23) (aM 24) (aM 26) (aM 27) (aM 29) (aM 31) v1 n v2 x_aM26 = some q → va_P (dC, dI) vwCl (zzM ad cy iM (us aM [(26, x_aM26)])) H → va_D A (zzM ad cy iM (us aM [(26, x_aM26)])) → va_S A s.heap H locs → lv_has ls 3 [(0, .ref (ad 0)), (1, .int v1), (2, .int v2)] → W p l e ({ frames := 2, cells := 0, slots := 0, locals := 46 } : Room) s m args below meth c H locs 0 0 QQ (F0 m 85 ls []) := by
    intro n
    induction n with
    | zero =>
      intro v1 v2 x_aM26 H locs ls h hP hD hS hl
      rw [f_M_readRole_85] at h
      cases h
    | succ n ih =>
      intro v1 v2 x_aM26 H locs ls h hP hD hS hl
      rw [f_M_readRole_85] at h
      refine lv_iload_n hx hb dX8_readRole_85 rfl (lv_at hl 2 rfl) ?_
      refine lv_aload_n hx hb dX8_readRole_86 rfl (lv_at hl 0 rfl) ?_
      refine va_get (D := (dC, dI)) (ci := 8) (v := .int (iM 5)) (C := RX8) (T := TX8) (N := 78) hx hb hts ki8 hown hK hP 0 rfl rfl 5 (by decide) kf172 (fun _ h9 => h9) rfl dX8_readRole_87 ?_
      refine lv_icmp_ge (tgt := 123) hx hb dX8_readRole_90 (by decide) (fun cz => ?_) (fun cz => ?_)
      · have h := g_t h cz
        refine lv_aload_n hx hb dX8_readRole_123 rfl (lv_at hl 0 rfl) ?_
        refine va_get (D := (dC, dI)) (ci := 8) (v := .ref (ad 17)) (C := RX8) (T := TX8) (N := 78) hx hb hts ki8 hown hK hP 0 rfl rfl 27 (by decide) kf60 (fun _ h9 => h9) rfl dX8_readRole_124 ?_
        refine lv_iconst (v := 3) hx hb dX8_readRole_127 (by decide) ?_
        refine lv_iload_n hx hb dX8_readRole_128 rfl (lv_at hl 1 rfl) ?_
        refine lv_iadd hx hb dX8_readRole_129 ?_
        refine lv_aload_n hx hb dX8_readRole_130 rfl (lv_at hl 0 rfl) ?_
        refine va_get (D := (dC, dI)) (ci := 8) (v := .int (iM 5)) (C := RX8) (T := TX8) (N := 78) hx hb hts ki8 hown hK hP 0 rfl rfl 5 (by decide) kf172 (fun _ h9 => h9) rfl dX8_readRole_131 ?_
        obtain ⟨g_57, h⟩ := g_n h
        refine va_iast (f := (aM 27)) hx hb hK hP hD hS 17 0 rfl rfl g_57 dX8_readRole_134 (fun H locs hP hD hS => ?_)
        have hP : va_P (dC, dI) vwCl (zzM ad cy iM (us aM [(26, x_aM26), (27, (upd (aM 27) (((3 : Int32) + v1)).toNatClampNeg (iM 5)))])) H := Eq.mp (congrArg (fun w => va_P (dC, dI) vwCl w H) (stM_aM27 ad cy iM aM [(26, x_aM26)] ((upd (aM 27) (((3 : Int32) + v1)).toNatClampNeg (iM 5))))) hP
        have hD : va_D A (zzM ad cy iM (us aM [(26, x_aM26), (27, (upd (aM 27) (((3 : Int32) + v1)).toNatClampNeg (iM 5)))])) := Eq.mp (congrArg (fun w => va_D A w) (stM_aM27 ad cy iM aM [(26, x_aM26)] ((upd (aM 27) (((3 : Int32) + v1)).toNatClampNeg (iM 5))))) hD
        refine lv_aload_n hx hb dX8_readRole_135 rfl (lv_at hl 0 rfl) ?_
        refine va_get (D := (dC, dI)) (ci := 8) (v := .ref (ad 18)) (C := RX8) (T := TX8) (N := 78) hx hb hts ki8 hown hK hP 0 rfl rfl 29 (by decide) kf63 (fun _ h9 => h9) rfl dX8_readRole_136 ?_
        refine lv_iconst (v := 3) hx hb dX8_readRole_139 (by decide) ?_
        refine lv_iload_n hx hb dX8_readRole_140 rfl (lv_at hl 1 rfl) ?_
        refine lv_iadd hx hb dX8_readRole_141 ?_
        refine lv_iconst (v := 0) hx hb dX8_readRole_142 (by decide) ?_
        refine va_zast (f := (aM 29)) hx hb hK hP hD hS 18 4 rfl rfl g_57 dX8_readRole_143 (fun H locs hP hD hS => ?_)
        have hP : va_P (dC, dI) vwCl (zzM ad cy iM (us aM [(26, x_aM26), (27, (upd (aM 27) (((3 : Int32) + v1)).toNatClampNeg (iM 5))), (29, (upd (aM 29) (((3 : Int32) + v1)).toNatClampNeg (vp_nar .boolean ((0 : Int32)))))])) H := Eq.mp (congrArg (fun w => va_P (dC, dI) vwCl w H) (stM_aM29 ad cy iM aM [(26, x_aM26), (27, (upd (aM 27) (((3 : Int32) + v1)).toNatClampNeg (iM 5)))] ((upd (aM 29) (((3 : Int32) + v1)).toNatClampNeg (vp_nar .boolean ((0 : Int32))))))) hP
        have hD : va_D A (zzM ad cy iM (us aM [(26, x_aM26), (27, (upd (aM 27) (((3 : Int32) + v1)).toNatClampNeg (iM 5))), (29, (upd (aM 29) (((3 : Int32) + v1)).toNatClampNeg (vp_nar .boolean ((0 : Int32)))))])) := Eq.mp (congrArg (fun w => va_D A w) (stM_aM29 ad cy iM aM [(26, x_aM26), (27, (upd (aM 27) (((3 : Int32) + v1)).toNatClampNeg (iM 5)))] ((upd (aM 29) (((3 : Int32) + v1)).toNatClampNeg (vp_nar .boolean ((0 : Int32))))))) hD
        refine lv_aload_n hx hb dX8_readRole_144 rfl (lv_at hl 0 rfl) ?_
        refine va_get (D := (dC, dI)) (ci := 8) (v := .ref (ad 20)) (C := RX8) (T := TX8) (N := 78) hx hb hts ki8 hown hK hP 0 rfl rfl 31 (by decide) kf70 (fun _ h9 => h9) rfl dX8_readRole_145 ?_
        refine lv_iconst (v := 3) hx hb dX8_readRole_148 (by decide) ?_
        refine lv_iload_n hx hb dX8_readRole_149 rfl (lv_at hl 1 rfl) ?_
        refine lv_iadd hx hb dX8_readRole_150 ?_
        refine lv_iconst (v := 0) hx hb dX8_readRole_151 (by decide) ?_
        refine va_zast (f := (aM 31)) hx hb hK hP hD hS 20 4 rfl rfl g_57 dX8_readRole_152 (fun H locs hP hD hS => ?_)
        have hP : va_P (dC, dI) vwCl (zzM ad cy iM (us aM [(26, x_aM26), (27, (upd (aM 27) (((3 : Int32) + v1)).toNatClampNeg (iM 5))), (29, (upd (aM 29) (((3 : Int32) + v1)).toNatClampNeg (vp_nar .boolean ((0 : Int32))))), (31, (upd (aM 31) (((3 : Int32) + v1)).toNatClampNeg (vp_nar .boolean ((0 : Int32)))))])) H := Eq.mp (congrArg (fun w => va_P (dC, dI) vwCl w H) (stM_aM31 ad cy iM aM [(26, x_aM26), (27, (upd (aM 27) (((3 : Int32) + v1)).toNatClampNeg (iM 5))), (29, (upd (aM 29) (((3 : Int32) + v1)).toNatClampNeg (vp_nar .boolean ((0 : Int32)))))] ((upd (aM 31) (((3 : Int32) + v1)).toNatClampNeg (vp_nar .boolean ((0 : Int32))))))) hP
        have hD : va_D A (zzM ad cy iM (us aM [(26, x_aM26), (27, (upd (aM 27) (((3 : Int32) + v1)).toNatClampNeg (iM 5))), (29, (upd (aM 29) (((3 : Int32) + v1)).toNatClampNeg (vp_nar .boolean ((0 : Int32))))), (31, (upd (aM 31) (((3 : Int32) + v1)).toNatClampNeg (vp_nar .boolean ((0 : Int32)))))])) := Eq.mp (congrArg (fun w => va_D A w) (stM_aM31 ad cy iM aM [(26, x_aM26), (27, (upd (aM 27) (((3 : Int32) + v1)).toNatClampNeg (iM 5))), (29, (upd (aM 29) (((3 : Int32) + v1)).toNatClampNeg (vp_nar .boolean ((0 : Int32)))))] ((upd (aM 31) (((3 : Int32) + v1)).toNatClampNeg (vp_nar .boolean ((0 : Int32))))))) hD
        refine lv_aload_n hx hb dX8_readRole_153 rfl (lv_at hl 0 rfl) ?_
        refine lv_dup hx hb dX8_readRole_154 rfl ?_
        refine va_get (D := (dC, dI)) (ci := 8) (v := .int (iM 44)) (C := RX8) (T := TX8) (N := 78) hx hb hts ki8 hown hK hP 0 rfl rfl 44 (by decide) kf221 (fun _ h9 => h9) rfl dX8_readRole_155 ?_
        refine lv_iconst (v := 1) hx hb dX8_readRole_158 (by decide) ?_
        refine lv_iadd hx hb dX8_readRole_159 ?_
        refine va_put (D := (dC, dI)) (ci := 8) (v := .int (((iM 44) + (1 : Int32)))) (ty := .int) (C := RX8) (T := TX8) (N := 78) hx hb hts ki8 tyX8 tyX8_ok nmX8 hown hK hP hD hS 0 rfl rfl 44 (by decide) kf221 (fun _ h9 => h9) rfl (by decide +kernel) rfl rfl (Nat.le_of_ble_eq_true rfl) dX8_readRole_160 (fun H locs hP hD hS => ?_)
        have hP : va_P (dC, dI) vwCl (zzM ad cy (us iM [(44, ((iM 44) + (1 : Int32)))]) (us aM [(26, x_aM26), (27, (upd (aM 27) (((3 : Int32) + v1)).toNatClampNeg (iM 5))), (29, (upd (aM 29) (((3 : Int32) + v1)).toNatClampNeg (vp_nar .boolean ((0 : Int32))))), (31, (upd (aM 31) (((3 : Int32) + v1)).toNatClampNeg (vp_nar .boolean ((0 : Int32)))))])) H := Eq.mp (congrArg (fun w => va_P (dC, dI) vwCl w H) (sfM_iM44 ad cy iM (us aM [(26, x_aM26), (27, (upd (aM 27) (((3 : Int32) + v1)).toNatClampNeg (iM 5))), (29, (upd (aM 29) (((3 : Int32) + v1)).toNatClampNeg (vp_nar .boolean ((0 : Int32))))), (31, (upd (aM 31) (((3 : Int32) + v1)).toNatClampNeg (vp_nar .boolean ((0 : Int32)))))]) (((iM 44) + (1 : Int32))))) hP
        have hD : va_D A (zzM ad cy (us iM [(44, ((iM 44) + (1 : Int32)))]) (us aM [(26, x_aM26), (27, (upd (aM 27) (((3 : Int32) + v1)).toNatClampNeg (iM 5))), (29, (upd (aM 29) (((3 : Int32) + v1)).toNatClampNeg (vp_nar .boolean ((0 : Int32))))), (31, (upd (aM 31) (((3 : Int32) + v1)).toNatClampNeg (vp_nar .boolean ((0 : Int32)))))])) := Eq.mp (congrArg (fun w => va_D A w) (sfM_iM44 ad cy iM (us aM [(26, x_aM26), (27, (upd (aM 27) (((3 : Int32) + v1)).toNatClampNeg (iM 5))), (29, (upd (aM 29) (((3 : Int32) + v1)).toNatClampNeg (vp_nar .boolean ((0 : Int32))))), (31, (upd (aM 31) (((3 : Int32) + v1)).toNatClampNeg (vp_nar .boolean ((0 : Int32)))))]) (((iM 44) + (1 : Int32))))) hD
        refine lv_iload_n hx hb dX8_readRole_163 rfl (lv_at hl 1 rfl) ?_
        have h' := Option.some.inj h
        rw [← hQQ]
        exact W.iret (v := v1) hx hb hr (fun t ht hW => ⟨⟨v1, (), rfl, by rw [← h'], by rw [← hWQ, ← h', ht]; exact hP, va_K.moved hW.alike hK⟩, hS.F ht⟩) hS.2.2 dX8_readRole_164
      · have h := g_f h cz
        refine lv_aload_n hx hb dX8_readRole_93 rfl (lv_at hl 0 rfl) ?_
        refine va_get (D := (dC, dI)) (ci := 8) (v := .ref (ad 16)) (C := RX8) (T := TX8) (N := 78) hx hb hts ki8 hown hK hP 0 rfl rfl 26 (by decide) kf57 (fun _ h9 => h9) rfl dX8_readRole_94 ?_
        refine lv_bipush (v := 8) hx hb dX8_readRole_97 (by decide) ?_
        refine lv_iconst (v := 3) hx hb dX8_readRole_99 (by decide) ?_
        refine lv_iload_n hx hb dX8_readRole_100 rfl (lv_at hl 1 rfl) ?_
        refine lv_iadd hx hb dX8_readRole_101 ?_
        refine lv_imul hx hb dX8_readRole_102 ?_
        refine lv_iload_n hx hb dX8_readRole_103 rfl (lv_at hl 2 rfl) ?_
        refine lv_iadd hx hb dX8_readRole_104 ?_
        refine lv_aload_n hx hb dX8_readRole_105 rfl (lv_at hl 0 rfl) ?_
        refine va_get (D := (dC, dI)) (ci := 8) (v := .ref (ad 1)) (C := RX8) (T := TX8) (N := 78) hx hb hts ki8 hown hK hP 0 rfl rfl 0 (by decide) kf7 (fun _ h9 => h9) rfl dX8_readRole_106 ?_
        refine lv_aload_n hx hb dX8_readRole_109 rfl (lv_at hl 0 rfl) ?_
        refine va_get (D := (dC, dI)) (ci := 8) (v := .int (iM 4)) (C := RX8) (T := TX8) (N := 78) hx hb hts ki8 hown hK hP 0 rfl rfl 4 (by decide) kf169 (fun _ h9 => h9) rfl dX8_readRole_110 ?_
        refine lv_iload_n hx hb dX8_readRole_113 rfl (lv_at hl 2 rfl) ?_
        refine lv_iadd hx hb dX8_readRole_114 ?_
        obtain ⟨g_58, h⟩ := g_n h
        refine va_bald (f := (aM 0)) hx hb hK hP 1 1 rfl rfl g_58 dX8_readRole_115 ?_
        obtain ⟨g_59, h⟩ := g_n h
        refine va_bast (f := x_aM26) hx hb hK hP hD hS 16 1 rfl rfl g_59 dX8_readRole_116 (fun H locs hP hD hS => ?_)
        have hP : va_P (dC, dI) vwCl (zzM ad cy iM (us aM [(26, (upd x_aM26 ((((8 : Int32) * ((3 : Int32) + v1)) + v2)).toNatClampNeg (vp_nar .byte (((aM 0) (((iM 4) + v2)).toNatClampNeg)))))])) H := Eq.mp (congrArg (fun w => va_P (dC, dI) vwCl w H) (stM_aM26 ad cy iM aM [(26, x_aM26)] ((upd x_aM26 ((((8 : Int32) * ((3 : Int32) + v1)) + v2)).toNatClampNeg (vp_nar .byte (((aM 0) (((iM 4) + v2)).toNatClampNeg))))))) hP
        have hD : va_D A (zzM ad cy iM (us aM [(26, (upd x_aM26 ((((8 : Int32) * ((3 : Int32) + v1)) + v2)).toNatClampNeg (vp_nar .byte (((aM 0) (((iM 4) + v2)).toNatClampNeg)))))])) := Eq.mp (congrArg (fun w => va_D A w) (stM_aM26 ad cy iM aM [(26, x_aM26)] ((upd x_aM26 ((((8 : Int32) * ((3 : Int32) + v1)) + v2)).toNatClampNeg (vp_nar .byte (((aM 0) (((iM 4) + v2)).toNatClampNeg))))))) hD
        refine lv_iinc (v := (v2 + (1 : Int32))) (lv' := [(2, .int ((v2 + (1 : Int32)))), (0, .ref (ad 0)), (1, .int v1)]) hx hb dX8_readRole_117 hl (k := 2) rfl rfl (by decide) rfl (fun ls hl => ?_)
        refine lv_goto (tgt := 85) hx hb dX8_readRole_120 (by decide) ?_
        exact ih v1 ((v2 + (1 : Int32))) ((upd x_aM26 ((((8 : Int32) * ((3 : Int32) + v1)) + v2)).toNatClampNeg (vp_nar .byte (((aM 0) (((iM 4) + v2)).toNatClampNeg))))) H locs ls h hP hD hS (lv_sub hl [1, 2, 0] rfl)
  have B24 : ∀  (H : Heap) (locs : List Loc) (ls : Array Slot), f_M_readRole_24 N (iM 3) (iM 4) (iM 5) (iM 43) (iM 44) (iM 46) (iM 47) (aM 0) (aM 7) (aM 23) (aM 24) (aM 26) (aM 27) (aM 29) (aM 31) = some q → va_P (dC, dI) vwCl (zzM ad cy iM aM) H → va_D A (zzM ad cy iM aM) → va_S A s.heap H locs → lv_has ls 3 [(0, .ref (ad 0))] → W p l e ({ frames := 2, cells := 0, slots := 0, locals := 46 } : Room) s m args below meth c H locs 0 0 QQ (F0 m 24 ls []) := by
    intro H locs ls h hP hD hS hl
    unfold f_M_readRole_24 at h
    refine lv_aload_n hx hb dX8_readRole_24 rfl (lv_at hl 0 rfl) ?_
    obtain ⟨q25, e25, h⟩ := g_b h
    refine callVvs (cc := cX8_readRole) (w1 := zzM ad cy (us iM [(46, q25.1), (47, q25.2)]) aM) (As := []) (rest := []) ⟨hx, hb, hml, hown, hts⟩ (c_M_misplaced l dC dI cy ad H.size iM aM q25 e25) (cwV 0 hts (goodV m_ml_X8_208 m_im_X8_misplaced m_se_X8_misplaced m_in_X8 m_cd_X8_misplaced) rfl rfl rfl (by decide +kernel) ⟨Nat.le_of_ble_eq_true rfl, Nat.le_of_ble_eq_true rfl⟩) hN hK hP hD hS hA rfl 0 rfl rfl rfl hl.1 rfl (Nat.le_of_ble_eq_true rfl) dX8_readRole_25 ⟨Nat.zero_le _, Nat.zero_le _⟩ (fun H locs hP hD hS => ?_)
    refine lv_iconst (v := 0) hx hb dX8_readRole_28 (by decide) ?_
    have h' := Option.some.inj h
    rw [← hQQ]
    exact W.iret (v := (0 : Int32)) hx hb hr (fun t ht hW => ⟨⟨(0 : Int32), (), rfl, by rw [← h'], by rw [← hWQ, ← h', ht]; exact hP, va_K.moved hW.alike hK⟩, hS.F ht⟩) hS.2.2 dX8_readRole_29
  intro H locs hP hD hS
  unfold f_M_readRole at h
  refine lv_aload_n hx hb dX8_readRole_0 rfl (lv_at hl 0 rfl) ?_
  obtain ⟨q1, e1, h⟩ := g_b h
  refine callVis (cc := cX8_readRole) (w1 := zzM ad cy iM aM) (As := []) (rest := []) ⟨hx, hb, hml, hown, hts⟩ (c_M_fine l dC dI cy ad H.size iM aM q1 e1) (cwV 0 hts (goodV m_ml_X8_198 m_im_X8_fine m_se_X8_fine m_in_X8 m_cd_X8_fine) rfl rfl rfl (by decide +kernel) ⟨Nat.le_of_ble_eq_true rfl, Nat.le_of_ble_eq_true rfl⟩) hN hK hP hD hS hA rfl 0 rfl rfl rfl hl.1 rfl (Nat.le_of_ble_eq_true rfl) dX8_readRole_1 ⟨Nat.zero_le _, Nat.zero_le _⟩ (fun H locs hP hD hS => ?_)
  refine lv_if_ne (tgt := 9) hx hb dX8_readRole_4 (by decide) (fun cz => ?_) (fun cz => ?_)
  · have h := g_f h cz
    refine lv_aload_n hx hb dX8_readRole_9 rfl (lv_at hl 0 rfl) ?_
    refine va_get (D := (dC, dI)) (ci := 8) (v := .int (iM 3)) (C := RX8) (T := TX8) (N := 78) hx hb hts ki8 hown hK hP 0 rfl rfl 3 (by decide) kf178 (fun _ h9 => h9) rfl dX8_readRole_10 ?_
    refine lv_iconst (v := 1) hx hb dX8_readRole_13 (by decide) ?_
    refine lv_icmp_ne (tgt := 24) hx hb dX8_readRole_14 (by decide) (fun cz => ?_) (fun cz => ?_)
    · have h := g_f h cz
      exact B24 H locs ls h hP hD hS (lv_sub hl [0] rfl)
    · have h := g_t h cz
      refine lv_aload_n hx hb dX8_readRole_17 rfl (lv_at hl 0 rfl) ?_
      obtain ⟨q18, e18, h⟩ := g_b h
      refine callVis (cc := cX8_readRole) (w1 := zzM ad cy iM aM) (As := []) (rest := []) ⟨hx, hb, hml, hown, hts⟩ (c_M_kept l dC dI cy ad H.size N iM aM q18 e18) (cwV 0 hts (goodV m_ml_X8_224 m_im_X8_kept m_se_X8_kept m_in_X8 m_cd_X8_kept) rfl rfl rfl (by decide +kernel) ⟨Nat.le_of_ble_eq_true rfl, Nat.le_of_ble_eq_true rfl⟩) hN hK hP hD hS hA rfl 0 rfl rfl rfl hl.1 rfl (Nat.le_of_ble_eq_true rfl) dX8_readRole_18 ⟨Nat.zero_le _, Nat.zero_le _⟩ (fun H locs hP hD hS => ?_)
      refine lv_if_lt (tgt := 30) hx hb dX8_readRole_21 (by decide) (fun cz => ?_) (fun cz => ?_)
      · have h := g_t h cz
        refine lv_aload_n hx hb dX8_readRole_30 rfl (lv_at hl 0 rfl) ?_
        obtain ⟨q31, e31, h⟩ := g_b h
        refine callVis (cc := cX8_readRole) (w1 := zzM ad cy iM aM) (As := []) (rest := []) ⟨hx, hb, hml, hown, hts⟩ (c_M_roleHere l dC dI cy ad H.size N iM aM q31 e31) (cwV 0 hts (goodV m_ml_X8_228 m_im_X8_roleHere m_se_X8_roleHere m_in_X8 m_cd_X8_roleHere) rfl rfl rfl (by decide +kernel) ⟨Nat.le_of_ble_eq_true rfl, Nat.le_of_ble_eq_true rfl⟩) hN hK hP hD hS hA rfl 0 rfl rfl rfl hl.1 rfl (Nat.le_of_ble_eq_true rfl) dX8_readRole_31 ⟨Nat.zero_le _, Nat.zero_le _⟩ (fun H locs hP hD hS => ?_)
        refine lv_istore_n (lv' := [(1, .int q31), (0, .ref (ad 0))]) hx hb dX8_readRole_34 rfl hl (by decide) rfl (fun ls hl => ?_)
        refine lv_iload_n hx hb dX8_readRole_35 rfl (lv_at hl 0 rfl) ?_
        refine lv_if_lt (tgt := 41) hx hb dX8_readRole_36 (by decide) (fun cz => ?_) (fun cz => ?_)
        · have h := g_t h cz
          refine lv_aload_n hx hb dX8_readRole_41 rfl (lv_at hl 1 rfl) ?_
          obtain ⟨q42, e42, h⟩ := g_b h
          refine callVis (cc := cX8_readRole) (w1 := zzM ad cy iM aM) (As := []) (rest := []) ⟨hx, hb, hml, hown, hts⟩ (c_M_nameHere l dC dI cy ad H.size N iM aM q42 e42) (cwV 0 hts (goodV m_ml_X8_231 m_im_X8_nameHere m_se_X8_nameHere m_in_X8 m_cd_X8_nameHere) rfl rfl rfl (by decide +kernel) ⟨Nat.le_of_ble_eq_true rfl, Nat.le_of_ble_eq_true rfl⟩) hN hK hP hD hS hA rfl 0 rfl rfl rfl hl.1 rfl (Nat.le_of_ble_eq_true rfl) dX8_readRole_42 ⟨Nat.zero_le _, Nat.zero_le _⟩ (fun H locs hP hD hS => ?_)
          refine lv_if_lt (tgt := 59) hx hb dX8_readRole_45 (by decide) (fun cz => ?_) (fun cz => ?_)
          · have h := g_t h cz
            refine lv_aload_n hx hb dX8_readRole_59 rfl (lv_at hl 1 rfl) ?_
            refine va_get (D := (dC, dI)) (ci := 8) (v := .int (iM 44)) (C := RX8) (T := TX8) (N := 78) hx hb hts ki8 hown hK hP 0 rfl rfl 44 (by decide) kf221 (fun _ h9 => h9) rfl dX8_readRole_60 ?_
            refine lv_iconst (v := 3) hx hb dX8_readRole_63 (by decide) ?_
            refine lv_icmp_ne (tgt := 78) hx hb dX8_readRole_64 (by decide) (fun cz => ?_) (fun cz => ?_)
            · have h := g_f h cz
              refine lv_aload_n hx hb dX8_readRole_78 rfl (lv_at hl 1 rfl) ?_
              refine va_get (D := (dC, dI)) (ci := 8) (v := .int (iM 44)) (C := RX8) (T := TX8) (N := 78) hx hb hts ki8 hown hK hP 0 rfl rfl 44 (by decide) kf221 (fun _ h9 => h9) rfl dX8_readRole_79 ?_
              refine lv_istore_n (lv' := [(1, .int (iM 44)), (0, .ref (ad 0))]) hx hb dX8_readRole_82 rfl hl (by decide) rfl (fun ls hl => ?_)
              refine lv_iconst (v := 0) hx hb dX8_readRole_83 (by decide) ?_
              refine lv_istore_n (lv' := [(2, .int ((0 : Int32))), (1, .int (iM 44)), (0, .ref (ad 0))]) hx hb dX8_readRole_84 rfl hl (by decide) rfl (fun ls hl => ?_)
              exact B85 N (iM 44) ((0 : Int32)) (aM 26) H locs ls h hP hD hS (lv_sub hl [2, 1, 0] rfl)
            · have h := g_t h cz
              refine lv_aload_n hx hb dX8_readRole_67 rfl (lv_at hl 1 rfl) ?_
              refine lv_iconst (v := 3) hx hb dX8_readRole_68 (by decide) ?_
              refine lv_aload_n hx hb dX8_readRole_69 rfl (lv_at hl 1 rfl) ?_
              refine va_get (D := (dC, dI)) (ci := 8) (v := .int (iM 4)) (C := RX8) (T := TX8) (N := 78) hx hb hts ki8 hown hK hP 0 rfl rfl 4 (by decide) kf169 (fun _ h9 => h9) rfl dX8_readRole_70 ?_
              obtain ⟨q73, e73, h⟩ := g_b h
              refine callVvs (cc := cX8_readRole) (w1 := zzM ad cy (us iM [(46, q73.1), (47, q73.2)]) aM) (As := [.int ((3 : Int32)), .int (iM 4)]) (rest := []) ⟨hx, hb, hml, hown, hts⟩ (c_M_wrong l dC dI cy ad H.size ((3 : Int32)) (iM 4) iM aM q73 e73) (cwV 2 hts (goodV m_ml_X8_194 m_im_X8_wrong m_se_X8_wrong m_in_X8 m_cd_X8_wrong) rfl rfl rfl (by decide +kernel) ⟨Nat.le_of_ble_eq_true rfl, Nat.le_of_ble_eq_true rfl⟩) hN hK hP hD hS hA rfl 0 rfl rfl rfl hl.1 rfl (Nat.le_of_ble_eq_true rfl) dX8_readRole_73 ⟨Nat.zero_le _, Nat.zero_le _⟩ (fun H locs hP hD hS => ?_)
              refine lv_iconst (v := 0) hx hb dX8_readRole_76 (by decide) ?_
              have h' := Option.some.inj h
              rw [← hQQ]
              exact W.iret (v := (0 : Int32)) hx hb hr (fun t ht hW => ⟨⟨(0 : Int32), (), rfl, by rw [← h'], by rw [← hWQ, ← h', ht]; exact hP, va_K.moved hW.alike hK⟩, hS.F ht⟩) hS.2.2 dX8_readRole_77
          · have h := g_f h cz
            refine lv_aload_n hx hb dX8_readRole_48 rfl (lv_at hl 1 rfl) ?_
            refine lv_iconst (v := 4) hx hb dX8_readRole_49 (by decide) ?_
            refine lv_aload_n hx hb dX8_readRole_50 rfl (lv_at hl 1 rfl) ?_
            refine va_get (D := (dC, dI)) (ci := 8) (v := .int (iM 4)) (C := RX8) (T := TX8) (N := 78) hx hb hts ki8 hown hK hP 0 rfl rfl 4 (by decide) kf169 (fun _ h9 => h9) rfl dX8_readRole_51 ?_
            obtain ⟨q54, e54, h⟩ := g_b h
            refine callVvs (cc := cX8_readRole) (w1 := zzM ad cy (us iM [(46, q54.1), (47, q54.2)]) aM) (As := [.int ((4 : Int32)), .int (iM 4)]) (rest := []) ⟨hx, hb, hml, hown, hts⟩ (c_M_wrong l dC dI cy ad H.size ((4 : Int32)) (iM 4) iM aM q54 e54) (cwV 2 hts (goodV m_ml_X8_194 m_im_X8_wrong m_se_X8_wrong m_in_X8 m_cd_X8_wrong) rfl rfl rfl (by decide +kernel) ⟨Nat.le_of_ble_eq_true rfl, Nat.le_of_ble_eq_true rfl⟩) hN hK hP hD hS hA rfl 0 rfl rfl rfl hl.1 rfl (Nat.le_of_ble_eq_true rfl) dX8_readRole_54 ⟨Nat.zero_le _, Nat.zero_le _⟩ (fun H locs hP hD hS => ?_)
            refine lv_iconst (v := 0) hx hb dX8_readRole_57 (by decide) ?_
            have h' := Option.some.inj h
            rw [← hQQ]
            exact W.iret (v := (0 : Int32)) hx hb hr (fun t ht hW => ⟨⟨(0 : Int32), (), rfl, by rw [← h'], by rw [← hWQ, ← h', ht]; exact hP, va_K.moved hW.alike hK⟩, hS.F ht⟩) hS.2.2 dX8_readRole_58
        · have h := g_f h cz
          refine lv_iload_n hx hb dX8_readRole_39 rfl (lv_at hl 0 rfl) ?_
          have h' := Option.some.inj h
          rw [← hQQ]
          exact W.iret (v := q31) hx hb hr (fun t ht hW => ⟨⟨q31, (), rfl, by rw [← h'], by rw [← hWQ, ← h', ht]; exact hP, va_K.moved hW.alike hK⟩, hS.F ht⟩) hS.2.2 dX8_readRole_40
      · have h := g_f h cz
        exact B24 H locs ls h hP hD hS (lv_sub hl [0] rfl)
  · have h := g_t h cz
    refine lv_iconst (v := 0) hx hb dX8_readRole_7 (by decide) ?_
    have h' := Option.some.inj h
    rw [← hQQ]
    exact W.iret (v := (0 : Int32)) hx hb hr (fun t ht hW => ⟨⟨(0 : Int32), (), rfl, by rw [← h'], by rw [← hWQ, ← h', ht]; exact hP, va_K.moved hW.alike hK⟩, hS.F ht⟩) hS.2.2 dX8_readRole_8
