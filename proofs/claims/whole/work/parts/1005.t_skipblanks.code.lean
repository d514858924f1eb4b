def f_T_skipBlanks_39 (N : Nat) (iT1 : Int32) (iT2 : Int32) (tx : Nat → Int32) (k0 : Int32 → Option Int32) (x_iT2 : Int32) : Option Int32 := k0 ((x_iT2 + (1 : Int32)))
def f_T_skipBlanks_0 (N : Nat) (iT1 : Int32) (iT2 : Int32) (tx : Nat → Int32)  : Nat → Int32 → Option Int32
  | 0, _ => none
  | n + 1, x_iT2 => if iT1 ≤ x_iT2 then (some x_iT2) else (if x_iT2 < 0 ∨ 2000 ≤ x_iT2.toNatClampNeg then none else (if (tx x_iT2.toNatClampNeg) = (10 : Int32) then (f_T_skipBlanks_39 N iT1 iT2 tx (f_T_skipBlanks_0 N iT1 iT2 tx n) x_iT2) else (if (tx x_iT2.toNatClampNeg) = (32 : Int32) then (f_T_skipBlanks_39 N iT1 iT2 tx (f_T_skipBlanks_0 N iT1 iT2 tx n) x_iT2) else (some x_iT2))))
def f_T_skipBlanks (N : Nat) (iT1 : Int32) (iT2 : Int32) (tx : Nat → Int32) : Option Int32 := f_T_skipBlanks_0 N iT1 iT2 tx N iT2
set_option maxHeartbeats 8000000 in
set_option maxRecDepth 100000 in
theorem c_T_skipBlanks (l : Launch) (dC : Nat → ClassId) (dI : Nat → Nat → Nat) (cy : Nat → ClassId) (ad : Nat → Nat) (sz : Nat) (N : Nat) (iT : Nat → Int32) (wT : Int64) (tx : Nat → Int32) (q : Int32) (h : f_T_skipBlanks N (iT 1) (iT 2) tx = some q) : Met l yX5_skipBlanks wsX5_skipBlanks ({ frames := 0, cells := 0, slots := 0, locals := 0 } : Room) (cP (dC, dI) cy [.ref (ad 0)] (zzT ad cy iT wT tx) sz) (cQv (dC, dI) cy (zzT ad cy (us iT [(2, q)]) wT tx) (va_A (zzT ad cy iT wT tx) sz)) 0 0 (va_A (zzT ad cy iT wT tx) sz) := by
  refine Met.ofW (cc := cX5_skipBlanks) (maxL := 1) (ret := none) (by decide) rfl ?_
  intro p e s m args below meth c s₁ B hml hv
  obtain ⟨hav, hsz, hP, hK, hD0, hN⟩ := hv
  have hx := B.exec
  have hb := B.bytes
  have hr := B.returns
  have hts := atoms_spec (ws := wsX5_skipBlanks) B.pre
  have hown : s.vm.findClass RX5 = some m.cls := findClass_of_methodNamed B.named
  have hlocks := B.notSynchronized
  subst hsz
  have hD := hD0.self (sz := s.heap.size)
  generalize hAe : va_A (zzT ad cy iT wT tx) s.heap.size = A at hD ⊢
  have hA : ∀ q : Nat, s.heap.size ≤ q → A q := fun q h => by rw [← hAe]; exact Or.inr h
  have hS : va_S A s.heap s.heap [] := va_S.rf
  generalize hWQ : (zzT ad cy (us iT [(2, q)]) wT tx) = WQ
  generalize hQQ : MQ below (cQv (dC, dI) cy WQ A) args s 0 0 A = QQ
  have hl := lv_entry ([.ref (ad 0)] : List Value) (n := 1) (Nat.le_of_ble_eq_true rfl)
  have hfr := lg_entry_eq m ([.ref (ad 0)] : List Value) 1
  rw [← hav] at hfr
  rw [hfr]
  clear hfr hav
  generalize (lg_sl ([.ref (ad 0)] : List Value) ++ List.replicate (1 - (lg_sl ([.ref (ad 0)] : List Value)).length) Slot.unset).toArray = ls at hl ⊢
  have hl : lv_has ls 1 [(0, .ref (ad 0))] := hl
  have kf25 := hts _ (List.mem_cons_of_mem _ m_fl_X5_25)
  have ki5 := (fun w h => List.mem_cons_of_mem _ (i_X5 w h) : ∀ w ∈ u_ws RX5 TX5 6, w ∈ wsX5_skipBlanks)
  have kf21 := hts _ (List.mem_cons_of_mem _ m_fl_X5_21)
  have kf9 := hts _ (List.mem_cons_of_mem _ m_fl_X5_9)
  refine (?_ : ∀ (H : Heap) (locs : List Loc), va_P (dC, dI) vwCl (zzT ad cy iT wT tx) H → va_D A (zzT ad cy iT wT tx) → va_S A s.heap H locs → W p l e ({ frames := 0, cells := 0, slots := 0, locals := 0 } : Room) s m args below meth c H locs 0 0 QQ (F0 m 0 ls [])) s.heap [] hP hD hS
  clear hP hD hS
  have B39 : ∀ (x_iT2 : Int32) (k0 : Int32 → Option Int32) (hk0 : ∀ (x_iT2' : Int32) (H : Heap) (locs : List Loc) (ls : Array Slot), k0 x_iT2' = some q → va_P (dC, dI) vwCl (zzT ad cy (us iT [(2, x_iT2')]) wT tx) H → va_D A (zzT ad cy (us iT [(2, x_iT2')]) wT tx) → va_S A s.heap H locs → lv_has ls 1 [(0, .ref (ad 0))] → W p l e ({ frames := 0, cells := 0, slots := 0, locals := 0 } : Room) s m args below meth c H locs 0 0 QQ (F0 m 0 ls [])) (H : Heap) (locs : List Loc) (ls : Array Slot), f_T_skipBlanks_39 N (iT 1) (iT 2) tx k0 x_iT2 = some q → va_P (dC, dI) vwCl (zzT ad cy (us iT [(2, x_iT2)]) wT tx) H → va_D A (zzT ad cy (us iT [(2, x_iT2)]) wT tx) → va_S A s.heap H locs → lv_has ls 1 [(0, .ref (ad 0))] → W p l e ({ frames := 0, cells := 0, slots := 0, locals := 0 } : Room) s m args below meth c H locs 0 0 QQ (F0 m 39 ls []) := by
    intro x_iT2 k0 hk0 H locs ls h hP hD hS hl
    unfold f_T_skipBlanks_39 at h
    refine lv_aload_n hx hb dX5_skipBlanks_39 rfl (lv_at hl 0 rfl) ?_
    refine lv_dup hx hb dX5_skipBlanks_40 rfl ?_
    refine va_get (D := (dC, dI)) (ci := 5) (v := .int x_iT2) (C := RX5) (T := TX5) (N := 6) hx hb hts ki5 hown hK hP 0 rfl rfl 2 (by decide) kf25 (fun _ h9 => h9) rfl dX5_skipBlanks_41 ?_
    refine lv_iconst (v := 1) hx hb dX5_skipBlanks_44 (by decide) ?_
    refine lv_iadd hx hb dX5_skipBlanks_45 ?_
    refine va_put (D := (dC, dI)) (ci := 5) (v := .int ((x_iT2 + (1 : Int32)))) (ty := .int) (C := RX5) (T := TX5) (N := 6) hx hb hts ki5 tyX5 tyX5_ok nmX5 hown hK hP hD hS 0 rfl rfl 2 (by decide) kf25 (fun _ h9 => h9) rfl (by decide +kernel) rfl rfl (Nat.le_of_ble_eq_true rfl) dX5_skipBlanks_46 (fun H locs hP hD hS => ?_)
    have hP : va_P (dC, dI) vwCl (zzT ad cy (us iT [(2, (x_iT2 + (1 : Int32)))]) wT tx) H := Eq.mp (congrArg (fun w => va_P (dC, dI) vwCl w H) (stT_iT2 ad cy iT wT tx [(2, x_iT2)] ((x_iT2 + (1 : Int32))))) hP
    have hD : va_D A (zzT ad cy (us iT [(2, (x_iT2 + (1 : Int32)))]) wT tx) := Eq.mp (congrArg (fun w => va_D A w) (stT_iT2 ad cy iT wT tx [(2, x_iT2)] ((x_iT2 + (1 : Int32))))) hD
    refine lv_goto (tgt := 0) hx hb dX5_skipBlanks_49 (by decide) ?_
    exact hk0 ((x_iT2 + (1 : Int32))) H locs ls h hP hD hS (lv_sub hl [0] rfl)
  have B0 : ∀ (n : Nat) (x_iT2 : Int32) (H : Heap) (locs : List Loc) (ls : Array Slot), f_T_skipBlanks_0 N (iT 1) (iT 2) tx n x_iT2 = some q → va_P (dC, dI) vwCl (zzT ad cy (us iT [(2, x_iT2)]) wT tx) H → va_D A (zzT ad cy (us iT [(2, x_iT2)]) wT tx) → va_S A s.heap H locs → lv_has ls 1 [(0, .ref (ad 0))] → W p l e ({ frames := 0, cells := 0, slots := 0, locals := 0 } : Room) s m args below meth c H locs 0 0 QQ (F0 m 0 ls []) := by
    intro n
    induction n with
    | zero =>
      intro x_iT2 H locs ls h hP hD hS hl
      rw [f_T_skipBlanks_0] at h
      cases h
    | succ n ih =>
      intro x_iT2 H locs ls h hP hD hS hl
      rw [f_T_skipBlanks_0] at h
      refine lv_aload_n hx hb dX5_skipBlanks_0 rfl (lv_at hl 0 rfl) ?_
      refine va_get (D := (dC, dI)) (ci := 5) (v := .int x_iT2) (C := RX5) (T := TX5) (N := 6) hx hb hts ki5 hown hK hP 0 rfl rfl 2 (by decide) kf25 (fun _ h9 => h9) rfl dX5_skipBlanks_1 ?_
      refine lv_aload_n hx hb dX5_skipBlanks_4 rfl (lv_at hl 0 rfl) ?_
      refine va_get (D := (dC, dI)) (ci := 5) (v := .int (iT 1)) (C := RX5) (T := TX5) (N := 6) hx hb hts ki5 hown hK hP 0 rfl rfl 1 (by decide) kf21 (fun _ h9 => h9) rfl dX5_skipBlanks_5 ?_
      refine lv_icmp_ge (tgt := 52) hx hb dX5_skipBlanks_8 (by decide) (fun cz => ?_) (fun cz => ?_)
      · have h := g_t h cz
        have h' := Option.some.inj h
        rw [← hQQ]
        exact W.vret hx hb hr (fun t ht hW => ⟨⟨(), rfl, trivial, by rw [← hWQ, ← h', ht]; exact hP, va_K.moved hW.alike hK⟩, hS.F ht⟩) hS.2.2 dX5_skipBlanks_52
      · have h := g_f h cz
        refine lv_aload_n hx hb dX5_skipBlanks_11 rfl (lv_at hl 0 rfl) ?_
        refine va_get (D := (dC, dI)) (ci := 5) (v := .ref (ad 1)) (C := RX5) (T := TX5) (N := 6) hx hb hts ki5 hown hK hP 0 rfl rfl 0 (by decide) kf9 (fun _ h9 => h9) rfl dX5_skipBlanks_12 ?_
        refine lv_aload_n hx hb dX5_skipBlanks_15 rfl (lv_at hl 0 rfl) ?_
        refine va_get (D := (dC, dI)) (ci := 5) (v := .int x_iT2) (C := RX5) (T := TX5) (N := 6) hx hb hts ki5 hown hK hP 0 rfl rfl 2 (by decide) kf25 (fun _ h9 => h9) rfl dX5_skipBlanks_16 ?_
        obtain ⟨g_2, h⟩ := g_n h
        refine va_bald (f := tx) hx hb hK hP 1 1 rfl rfl g_2 dX5_skipBlanks_19 ?_
        refine lv_bipush (v := 10) hx hb dX5_skipBlanks_20 (by decide) ?_
        refine lv_icmp_eq (tgt := 39) hx hb dX5_skipBlanks_22 (by decide) (fun cz => ?_) (fun cz => ?_)
        · have h := g_t h cz
          exact B39 x_iT2 (f_T_skipBlanks_0 N (iT 1) (iT 2) tx n) ih H locs ls h hP hD hS (lv_sub hl [0] rfl)
        · have h := g_f h cz
          refine lv_aload_n hx hb dX5_skipBlanks_25 rfl (lv_at hl 0 rfl) ?_
          refine va_get (D := (dC, dI)) (ci := 5) (v := .ref (ad 1)) (C := RX5) (T := TX5) (N := 6) hx hb hts ki5 hown hK hP 0 rfl rfl 0 (by decide) kf9 (fun _ h9 => h9) rfl dX5_skipBlanks_26 ?_
          refine lv_aload_n hx hb dX5_skipBlanks_29 rfl (lv_at hl 0 rfl) ?_
          refine va_get (D := (dC, dI)) (ci := 5) (v := .int x_iT2) (C := RX5) (T := TX5) (N := 6) hx hb hts ki5 hown hK hP 0 rfl rfl 2 (by decide) kf25 (fun _ h9 => h9) rfl dX5_skipBlanks_30 ?_
          refine va_bald (f := tx) hx hb hK hP 1 1 rfl rfl g_2 dX5_skipBlanks_33 ?_
          refine lv_bipush (v := 32) hx hb dX5_skipBlanks_34 (by decide) ?_
          refine lv_icmp_ne (tgt := 52) hx hb dX5_skipBlanks_36 (by decide) (fun cz => ?_) (fun cz => ?_)
          · have h := g_f h cz
            have h' := Option.some.inj h
            rw [← hQQ]
            exact W.vret hx hb hr (fun t ht hW => ⟨⟨(), rfl, trivial, by rw [← hWQ, ← h', ht]; exact hP, va_K.moved hW.alike hK⟩, hS.F ht⟩) hS.2.2 dX5_skipBlanks_52
          · have h := g_t h cz
            exact B39 x_iT2 (f_T_skipBlanks_0 N (iT 1) (iT 2) tx n) ih H locs ls h hP hD hS (lv_sub hl [0] rfl)
  intro H locs hP hD hS
  unfold f_T_skipBlanks at h
  exact B0 N (iT 2) H locs ls h hP hD hS (lv_sub hl [0] rfl)
