def f_M_putName_2 (N : Nat) (iM73 : Int32) (aM23 : Nat → Int32) (aM24 : Nat → Int32) (aM72 : Nat → Int32) (v1 : Int32) : Nat → Int32 → Int32 → (Nat → Int32) → Option (Int32 × (Nat → Int32))
  | 0, _, _, _ => none
  | n + 1, v2, x_iM73, x_aM72 => if v1 < 0 ∨ 10 ≤ v1.toNatClampNeg then none else (if (aM24 v1.toNatClampNeg) ≤ v2 then (some (x_iM73, x_aM72)) else (if (((8 : Int32) * v1) + v2) < 0 ∨ 80 ≤ ((((8 : Int32) * v1) + v2)).toNatClampNeg then none else ((f_M_put ((aM23 ((((8 : Int32) * v1) + v2)).toNatClampNeg)) x_iM73 x_aM72).bind fun q24 => (f_M_putName_2 N iM73 aM23 aM24 aM72 v1 n ((v2 + (1 : Int32))) q24.1 q24.2))))
def f_M_putName (N : Nat) (a1 : Int32) (iM73 : Int32) (aM23 : Nat → Int32) (aM24 : Nat → Int32) (aM72 : Nat → Int32) : Option (Int32 × (Nat → Int32)) := f_M_putName_2 N iM73 aM23 aM24 aM72 a1 N ((0 : Int32)) iM73 aM72
set_option maxHeartbeats 8000000 in
set_option maxRecDepth 100000 in
theorem c_M_putName (l : Launch) (dC : Nat → ClassId) (dI : Nat → Nat → Nat) (cy : Nat → ClassId) (ad : Nat → Nat) (sz : Nat) (N : Nat) (a1 : Int32) (iM : Nat → Int32) (aM : Nat → Nat → Int32) (q : Int32 × (Nat → Int32)) (h : f_M_putName N a1 (iM 73) (aM 23) (aM 24) (aM 72) = some q) : Met l yX8_putName wsX8_putName ({ frames := 1, cells := 0, slots := 0, locals := 21 } : Room) (cP (dC, dI) cy [.ref (ad 0), .int a1] (zzM ad cy iM aM) sz) (cQv (dC, dI) cy (zzM ad cy (us iM [(73, q.1)]) (us aM [(72, q.2)])) (va_A (zzM ad cy iM aM) sz)) 0 0 (va_A (zzM ad cy iM aM) sz) := by
  refine Met.ofW (cc := cX8_putName) (maxL := 3) (ret := none) (by decide) rfl ?_
  intro p e s m args below meth c s₁ B hml hv
  obtain ⟨hav, hsz, hP, hK, hD0, hN⟩ := hv
  have hx := B.exec
  have hb := B.bytes
  have hr := B.returns
  have hts := atoms_spec (ws := wsX8_putName) B.pre
  have hown : s.vm.findClass RX8 = some m.cls := findClass_of_methodNamed B.named
  have hlocks := B.notSynchronized
  subst hsz
  have hD := hD0.self (sz := s.heap.size)
  generalize hAe : va_A (zzM ad cy iM aM) s.heap.size = A at hD ⊢
  have hA : ∀ q : Nat, s.heap.size ≤ q → A q := fun q h => by rw [← hAe]; exact Or.inr h
  have hS : va_S A s.heap s.heap [] := va_S.rf
  generalize hWQ : (zzM ad cy (us iM [(73, q.1)]) (us aM [(72, q.2)])) = WQ
  generalize hQQ : MQ below (cQv (dC, dI) cy WQ A) args s 0 0 A = QQ
  have hl := lv_entry ([.ref (ad 0), .int a1] : List Value) (n := 3) (Nat.le_of_ble_eq_true rfl)
  have hfr := lg_entry_eq m ([.ref (ad 0), .int a1] : List Value) 3
  rw [← hav] at hfr
  rw [hfr]
  clear hfr hav
  generalize (lg_sl ([.ref (ad 0), .int a1] : List Value) ++ List.replicate (3 - (lg_sl ([.ref (ad 0), .int a1] : List Value)).length) Slot.unset).toArray = ls at hl ⊢
  have hl : lv_has ls 3 [(0, .ref (ad 0)), (1, .int a1)] := hl
  have kf54 := hts _ (List.mem_cons_of_mem _ m_fl_X8_54)
  have ki8 := (fun w h => List.mem_cons_of_mem _ (i_X8 w h) : ∀ w ∈ u_ws RX8 TX8 78, w ∈ wsX8_putName)
  have kf51 := hts _ (List.mem_cons_of_mem _ m_fl_X8_51)
  refine (?_ : ∀ (H : Heap) (locs : List Loc), va_P (dC, dI) vwCl (zzM ad cy iM aM) H → va_D A (zzM ad cy iM aM) → va_S A s.heap H locs → W p l e ({ frames := 1, cells := 0, slots := 0, locals := 21 } : Room) s m args below meth c H locs 0 0 QQ (F0 m 0 ls [])) s.heap [] hP hD hS
  clear hP hD hS
  have B2 : ∀ (n : Nat) (v1 : Int32) (v2 : Int32) (x_iM73 : Int32) (x_aM72 : Nat → Int32) (H : Heap) (locs : List Loc) (ls : Array Slot), f_M_putName_2 N (iM 73) (aM 23) (aM 24) (aM 72) v1 n v2 x_iM73 x_aM72 = some q → va_P (dC, dI) vwCl (zzM ad cy (us iM [(73, x_iM73)]) (us aM [(72, x_aM72)])) H → va_D A (zzM ad cy (us iM [(73, x_iM73)]) (us aM [(72, x_aM72)])) → va_S A s.heap H locs → lv_has ls 3 [(0, .ref (ad 0)), (1, .int v1), (2, .int v2)] → W p l e ({ frames := 1, cells := 0, slots := 0, locals := 21 } : Room) s m args below meth c H locs 0 0 QQ (F0 m 2 ls []) := by
    intro n
    induction n with
    | zero =>
      intro v1 v2 x_iM73 x_aM72 H locs ls h hP hD hS hl
      rw [f_M_putName_2] at h
      cases h
    | succ n ih =>
      intro v1 v2 x_iM73 x_aM72 H locs ls h hP hD hS hl
      rw [f_M_putName_2] at h
      refine lv_iload_n hx hb dX8_putName_2 rfl (lv_at hl 2 rfl) ?_
      refine lv_aload_n hx hb dX8_putName_3 rfl (lv_at hl 0 rfl) ?_
      refine va_get (D := (dC, dI)) (ci := 8) (v := .ref (ad 15)) (C := RX8) (T := TX8) (N := 78) hx hb hts ki8 hown hK hP 0 rfl rfl 24 (by decide) kf54 (fun _ h9 => h9) rfl dX8_putName_4 ?_
      refine lv_iload_n hx hb dX8_putName_7 rfl (lv_at hl 1 rfl) ?_
      obtain ⟨g_119, h⟩ := g_n h
      refine va_iald (f := (aM 24)) hx hb hK hP 15 0 rfl rfl g_119 dX8_putName_8 ?_
      refine lv_icmp_ge (tgt := 33) hx hb dX8_putName_9 (by decide) (fun cz => ?_) (fun cz => ?_)
      · have h := g_t h cz
        have h' := Option.some.inj h
        rw [← hQQ]
        exact W.vret hx hb hr (fun t ht hW => ⟨⟨(), rfl, trivial, by rw [← hWQ, ← h', ht]; exact hP, va_K.moved hW.alike hK⟩, hS.F ht⟩) hS.2.2 dX8_putName_33
      · have h := g_f h cz
        refine lv_aload_n hx hb dX8_putName_12 rfl (lv_at hl 0 rfl) ?_
        refine lv_aload_n hx hb dX8_putName_13 rfl (lv_at hl 0 rfl) ?_
        refine va_get (D := (dC, dI)) (ci := 8) (v := .ref (ad 14)) (C := RX8) (T := TX8) (N := 78) hx hb hts ki8 hown hK hP 0 rfl rfl 23 (by decide) kf51 (fun _ h9 => h9) rfl dX8_putName_14 ?_
        refine lv_bipush (v := 8) hx hb dX8_putName_17 (by decide) ?_
        refine lv_iload_n hx hb dX8_putName_19 rfl (lv_at hl 1 rfl) ?_
        refine lv_imul hx hb dX8_putName_20 ?_
        refine lv_iload_n hx hb dX8_putName_21 rfl (lv_at hl 2 rfl) ?_
        refine lv_iadd hx hb dX8_putName_22 ?_
        obtain ⟨g_144, h⟩ := g_n h
        refine va_bald (f := (aM 23)) hx hb hK hP 14 1 rfl rfl g_144 dX8_putName_23 ?_
        obtain ⟨q24, e24, h⟩ := g_b h
        refine callVvs (cc := cX8_putName) (w1 := zzM ad cy (us iM [(73, q24.1)]) (us aM [(72, q24.2)])) (As := [.int (((aM 23) ((((8 : Int32) * v1) + v2)).toNatClampNeg))]) (rest := []) ⟨hx, hb, hml, hown, hts⟩ (c_M_put l dC dI cy ad H.size (((aM 23) ((((8 : Int32) * v1) + v2)).toNatClampNeg)) ((us iM [(73, x_iM73)])) ((us aM [(72, x_aM72)])) q24 e24) (cwV 1 hts (goodV m_ml_X8_441 m_im_X8_put m_se_X8_put m_in_X8 m_cd_X8_put) rfl rfl rfl (by decide +kernel) ⟨Nat.le_of_ble_eq_true rfl, Nat.le_of_ble_eq_true rfl⟩) hN hK hP hD hS hA rfl 0 rfl rfl rfl hl.1 rfl (Nat.le_of_ble_eq_true rfl) dX8_putName_24 ⟨Nat.zero_le _, Nat.zero_le _⟩ (fun H locs hP hD hS => ?_)
        refine lv_iinc (v := (v2 + (1 : Int32))) (lv' := [(2, .int ((v2 + (1 : Int32)))), (0, .ref (ad 0)), (1, .int v1)]) hx hb dX8_putName_27 hl (k := 2) rfl rfl (by decide) rfl (fun ls hl => ?_)
        refine lv_goto (tgt := 2) hx hb dX8_putName_30 (by decide) ?_
        exact ih v1 ((v2 + (1 : Int32))) q24.1 q24.2 H locs ls h hP hD hS (lv_sub hl [1, 2, 0] rfl)
  intro H locs hP hD hS
  unfold f_M_putName at h
  refine lv_iconst (v := 0) hx hb dX8_putName_0 (by decide) ?_
  refine lv_istore_n (lv' := [(2, .int ((0 : Int32))), (0, .ref (ad 0)), (1, .int a1)]) hx hb dX8_putName_1 rfl hl (by decide) rfl (fun ls hl => ?_)
  exact B2 N a1 ((0 : Int32)) (iM 73) (aM 72) H locs ls h hP hD hS (lv_sub hl [1, 2, 0] rfl)
