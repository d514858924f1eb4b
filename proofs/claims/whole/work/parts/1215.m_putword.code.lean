def f_M_putWord_33 (N : Nat) (iM73 : Int32) (aM7 : Nat → Int32) (aM72 : Nat → Int32)  : Nat → Int32 → Int32 → (Nat → Int32) → Option (Int32 × (Nat → Int32))
  | 0, _, _, _ => none
  | n + 1, v2, x_iM73, x_aM72 => if v2 < 0 ∨ 50 ≤ v2.toNatClampNeg then none else (if (aM7 v2.toNatClampNeg) = (32 : Int32) then (some (x_iM73, x_aM72)) else ((f_M_put ((aM7 v2.toNatClampNeg)) x_iM73 x_aM72).bind fun q51 => (f_M_putWord_33 N iM73 aM7 aM72 n ((v2 + (1 : Int32))) q51.1 q51.2)))
def f_M_putWord_4 (N : Nat) (iM73 : Int32) (aM7 : Nat → Int32) (aM72 : Nat → Int32)  : Nat → Int32 → Int32 → Option (Int32 × (Nat → Int32))
  | 0, _, _ => none
  | n + 1, v2, v3 => if v3 ≤ 0 then (f_M_putWord_33 N iM73 aM7 aM72 N v2 iM73 aM72) else (if v2 < 0 ∨ 50 ≤ v2.toNatClampNeg then none else (if (aM7 v2.toNatClampNeg) = (32 : Int32) then (f_M_putWord_4 N iM73 aM7 aM72 n ((v2 + (1 : Int32))) ((v3 - (1 : Int32)))) else (f_M_putWord_4 N iM73 aM7 aM72 n ((v2 + (1 : Int32))) ((v3 - (0 : Int32))))))
def f_M_putWord (N : Nat) (a1 : Int32) (iM73 : Int32) (aM7 : Nat → Int32) (aM72 : Nat → Int32) : Option (Int32 × (Nat → Int32)) := f_M_putWord_4 N iM73 aM7 aM72 N ((0 : Int32)) a1
set_option maxHeartbeats 8000000 in
set_option maxRecDepth 100000 in
theorem c_M_putWord (l : Launch) (dC : Nat → ClassId) (dI : Nat → Nat → Nat) (cy : Nat → ClassId) (ad : Nat → Nat) (sz : Nat) (N : Nat) (a1 : Int32) (iM : Nat → Int32) (aM : Nat → Nat → Int32) (q : Int32 × (Nat → Int32)) (h : f_M_putWord N a1 (iM 73) (aM 7) (aM 72) = some q) : Met l yX8_putWord wsX8_putWord ({ frames := 1, cells := 0, slots := 0, locals := 21 } : Room) (cP (dC, dI) cy [.ref (ad 0), .int a1] (zzM ad cy iM aM) sz) (cQv (dC, dI) cy (zzM ad cy (us iM [(73, q.1)]) (us aM [(72, q.2)])) (va_A (zzM ad cy iM aM) sz)) 0 0 (va_A (zzM ad cy iM aM) sz) := by
  refine Met.ofW (cc := cX8_putWord) (maxL := 4) (ret := none) (by decide) rfl ?_
  intro p e s m args below meth c s₁ B hml hv
  obtain ⟨hav, hsz, hP, hK, hD0, hN⟩ := hv
  have hx := B.exec
  have hb := B.bytes
  have hr := B.returns
  have hts := atoms_spec (ws := wsX8_putWord) B.pre
  have hown : s.vm.findClass RX8 = some m.cls := findClass_of_methodNamed B.named
  have hlocks := B.notSynchronized
  subst hsz
  have hD := hD0.self (sz := s.heap.size)
  generalize hAe : va_A (zzM ad cy iM aM) s.heap.size = A at hD ⊢
  have hA : ∀ q : Nat, s.heap.size ≤ q → A q := fun q h => by rw [← hAe]; exact Or.inr h
  have hS : va_S A s.heap s.heap [] := va_S.rf
  generalize hWQ : (zzM ad cy (us iM [(73, q.1)]) (us aM [(72, q.2)])) = WQ
  generalize hQQ : MQ below (cQv (dC, dI) cy WQ A) args s 0 0 A = QQ
  have hl := lv_entry ([.ref (ad 0), .int a1] : List Value) (n := 4) (Nat.le_of_ble_eq_true rfl)
  have hfr := lg_entry_eq m ([.ref (ad 0), .int a1] : List Value) 4
  rw [← hav] at hfr
  rw [hfr]
  clear hfr hav
  generalize (lg_sl ([.ref (ad 0), .int a1] : List Value) ++ List.replicate (4 - (lg_sl ([.ref (ad 0), .int a1] : List Value)).length) Slot.unset).toArray = ls at hl ⊢
  have hl : lv_has ls 4 [(0, .ref (ad 0)), (1, .int a1)] := hl
  have kf13 := hts _ (List.mem_cons_of_mem _ m_fl_X8_13)
  have ki8 := (fun w h => List.mem_cons_of_mem _ (i_X8 w h) : ∀ w ∈ u_ws RX8 TX8 78, w ∈ wsX8_putWord)
  refine (?_ : ∀ (H : Heap) (locs : List Loc), va_P (dC, dI) vwCl (zzM ad cy iM aM) H → va_D A (zzM ad cy iM aM) → va_S A s.heap H locs → W p l e ({ frames := 1, cells := 0, slots := 0, locals := 21 } : Room) s m args below meth c H locs 0 0 QQ (F0 m 0 ls [])) s.heap [] hP hD hS
  clear hP hD hS
  have B33 : ∀ (n : Nat) (v2 : Int32) (x_iM73 : Int32) (x_aM72 : Nat → Int32) (H : Heap) (locs : List Loc) (ls : Array Slot), f_M_putWord_33 N (iM 73) (aM 7) (aM 72) n v2 x_iM73 x_aM72 = some q → va_P (dC, dI) vwCl (zzM ad cy (us iM [(73, x_iM73)]) (us aM [(72, x_aM72)])) H → va_D A (zzM ad cy (us iM [(73, x_iM73)]) (us aM [(72, x_aM72)])) → va_S A s.heap H locs → lv_has ls 4 [(0, .ref (ad 0)), (2, .int v2)] → W p l e ({ frames := 1, cells := 0, slots := 0, locals := 21 } : Room) s m args below meth c H locs 0 0 QQ (F0 m 33 ls []) := by
    intro n
    induction n with
    | zero =>
      intro v2 x_iM73 x_aM72 H locs ls h hP hD hS hl
      rw [f_M_putWord_33] at h
      cases h
    | succ n ih =>
      intro v2 x_iM73 x_aM72 H locs ls h hP hD hS hl
      rw [f_M_putWord_33] at h
      refine lv_aload_n hx hb dX8_putWord_33 rfl (lv_at hl 0 rfl) ?_
      refine va_get (D := (dC, dI)) (ci := 8) (v := .ref (ad 2)) (C := RX8) (T := TX8) (N := 78) hx hb hts ki8 hown hK hP 0 rfl rfl 7 (by decide) kf13 (fun _ h9 => h9) rfl dX8_putWord_34 ?_
      refine lv_iload_n hx hb dX8_putWord_37 rfl (lv_at hl 1 rfl) ?_
      obtain ⟨g_142, h⟩ := g_n h
      refine va_cald (f := (aM 7)) hx hb hK hP 2 5 rfl rfl g_142 dX8_putWord_38 ?_
      refine lv_bipush (v := 32) hx hb dX8_putWord_39 (by decide) ?_
      refine lv_icmp_eq (tgt := 60) hx hb dX8_putWord_41 (by decide) (fun cz => ?_) (fun cz => ?_)
      · have h := g_t h cz
        have h' := Option.some.inj h
        rw [← hQQ]
        exact W.vret hx hb hr (fun t ht hW => ⟨⟨(), rfl, trivial, by rw [← hWQ, ← h', ht]; exact hP, va_K.moved hW.alike hK⟩, hS.F ht⟩) hS.2.2 dX8_putWord_60
      · have h := g_f h cz
        refine lv_aload_n hx hb dX8_putWord_44 rfl (lv_at hl 0 rfl) ?_
        refine lv_aload_n hx hb dX8_putWord_45 rfl (lv_at hl 0 rfl) ?_
        refine va_get (D := (dC, dI)) (ci := 8) (v := .ref (ad 2)) (C := RX8) (T := TX8) (N := 78) hx hb hts ki8 hown hK hP 0 rfl rfl 7 (by decide) kf13 (fun _ h9 => h9) rfl dX8_putWord_46 ?_
        refine lv_iload_n hx hb dX8_putWord_49 rfl (lv_at hl 1 rfl) ?_
        refine va_cald (f := (aM 7)) hx hb hK hP 2 5 rfl rfl g_142 dX8_putWord_50 ?_
        obtain ⟨q51, e51, h⟩ := g_b h
        refine callVvs (cc := cX8_putWord) (w1 := zzM ad cy (us iM [(73, q51.1)]) (us aM [(72, q51.2)])) (As := [.int (((aM 7) v2.toNatClampNeg))]) (rest := []) ⟨hx, hb, hml, hown, hts⟩ (c_M_put l dC dI cy ad H.size (((aM 7) v2.toNatClampNeg)) ((us iM [(73, x_iM73)])) ((us aM [(72, x_aM72)])) q51 e51) (cwV 1 hts (goodV m_ml_X8_441 m_im_X8_put m_se_X8_put m_in_X8 m_cd_X8_put) rfl rfl rfl (by decide +kernel) ⟨Nat.le_of_ble_eq_true rfl, Nat.le_of_ble_eq_true rfl⟩) hN hK hP hD hS hA rfl 0 rfl rfl rfl hl.1 rfl (Nat.le_of_ble_eq_true rfl) dX8_putWord_51 ⟨Nat.zero_le _, Nat.zero_le _⟩ (fun H locs hP hD hS => ?_)
        refine lv_iinc (v := (v2 + (1 : Int32))) (lv' := [(2, .int ((v2 + (1 : Int32)))), (0, .ref (ad 0))]) hx hb dX8_putWord_54 hl (k := 1) rfl rfl (by decide) rfl (fun ls hl => ?_)
        refine lv_goto (tgt := 33) hx hb dX8_putWord_57 (by decide) ?_
        exact ih ((v2 + (1 : Int32))) q51.1 q51.2 H locs ls h hP hD hS (lv_sub hl [1, 0] rfl)
  have B4 : ∀ (n : Nat) (v2 : Int32) (v3 : Int32) (H : Heap) (locs : List Loc) (ls : Array Slot), f_M_putWord_4 N (iM 73) (aM 7) (aM 72) n v2 v3 = some q → va_P (dC, dI) vwCl (zzM ad cy iM aM) H → va_D A (zzM ad cy iM aM) → va_S A s.heap H locs → lv_has ls 4 [(0, .ref (ad 0)), (2, .int v2), (3, .int v3)] → W p l e ({ frames := 1, cells := 0, slots := 0, locals := 21 } : Room) s m args below meth c H locs 0 0 QQ (F0 m 4 ls []) := by
    intro n
    induction n with
    | zero =>
      intro v2 v3 H locs ls h hP hD hS hl
      rw [f_M_putWord_4] at h
      cases h
    | succ n ih =>
      intro v2 v3 H locs ls h hP hD hS hl
      rw [f_M_putWord_4] at h
      refine lv_iload_n hx hb dX8_putWord_4 rfl (lv_at hl 2 rfl) ?_
      refine lv_if_le (tgt := 33) hx hb dX8_putWord_5 (by decide) (fun cz => ?_) (fun cz => ?_)
      · have h := g_t h cz
        exact B33 N v2 (iM 73) (aM 72) H locs ls h hP hD hS (lv_sub hl [0, 1] rfl)
      · have h := g_f h cz
        refine lv_iload_n hx hb dX8_putWord_8 rfl (lv_at hl 2 rfl) ?_
        refine lv_aload_n hx hb dX8_putWord_9 rfl (lv_at hl 0 rfl) ?_
        refine va_get (D := (dC, dI)) (ci := 8) (v := .ref (ad 2)) (C := RX8) (T := TX8) (N := 78) hx hb hts ki8 hown hK hP 0 rfl rfl 7 (by decide) kf13 (fun _ h9 => h9) rfl dX8_putWord_10 ?_
        refine lv_iload_n hx hb dX8_putWord_13 rfl (lv_at hl 1 rfl) ?_
        obtain ⟨g_142, h⟩ := g_n h
        refine va_cald (f := (aM 7)) hx hb hK hP 2 5 rfl rfl g_142 dX8_putWord_14 ?_
        refine lv_bipush (v := 32) hx hb dX8_putWord_15 (by decide) ?_
        refine lv_icmp_ne (tgt := 24) hx hb dX8_putWord_17 (by decide) (fun cz => ?_) (fun cz => ?_)
        · have h := g_f h cz
          refine lv_iconst (v := 0) hx hb dX8_putWord_24 (by decide) ?_
          refine lv_isub hx hb dX8_putWord_25 ?_
          refine lv_istore_n (lv' := [(3, .int ((v3 - (0 : Int32)))), (0, .ref (ad 0)), (2, .int v2)]) hx hb dX8_putWord_26 rfl hl (by decide) rfl (fun ls hl => ?_)
          refine lv_iinc (v := (v2 + (1 : Int32))) (lv' := [(2, .int ((v2 + (1 : Int32)))), (3, .int ((v3 - (0 : Int32)))), (0, .ref (ad 0))]) hx hb dX8_putWord_27 hl (k := 2) rfl rfl (by decide) rfl (fun ls hl => ?_)
          refine lv_goto (tgt := 4) hx hb dX8_putWord_30 (by decide) ?_
          exact ih ((v2 + (1 : Int32))) ((v3 - (0 : Int32))) H locs ls h hP hD hS (lv_sub hl [2, 0, 1] rfl)
        · have h := g_t h cz
          refine lv_iconst (v := 1) hx hb dX8_putWord_20 (by decide) ?_
          refine lv_goto (tgt := 25) hx hb dX8_putWord_21 (by decide) ?_
          refine lv_isub hx hb dX8_putWord_25 ?_
          refine lv_istore_n (lv' := [(3, .int ((v3 - (1 : Int32)))), (0, .ref (ad 0)), (2, .int v2)]) hx hb dX8_putWord_26 rfl hl (by decide) rfl (fun ls hl => ?_)
          refine lv_iinc (v := (v2 + (1 : Int32))) (lv' := [(2, .int ((v2 + (1 : Int32)))), (3, .int ((v3 - (1 : Int32)))), (0, .ref (ad 0))]) hx hb dX8_putWord_27 hl (k := 2) rfl rfl (by decide) rfl (fun ls hl => ?_)
          refine lv_goto (tgt := 4) hx hb dX8_putWord_30 (by decide) ?_
          exact ih ((v2 + (1 : Int32))) ((v3 - (1 : Int32))) H locs ls h hP hD hS (lv_sub hl [2, 0, 1] rfl)
  intro H locs hP hD hS
  unfold f_M_putWord at h
  refine lv_iconst (v := 0) hx hb dX8_putWord_0 (by decide) ?_
  refine lv_istore_n (lv' := [(2, .int ((0 : Int32))), (0, .ref (ad 0)), (1, .int a1)]) hx hb dX8_putWord_1 rfl hl (by decide) rfl (fun ls hl => ?_)
  refine lv_iload_n hx hb dX8_putWord_2 rfl (lv_at hl 2 rfl) ?_
  refine lv_istore_n (lv' := [(3, .int a1), (2, .int ((0 : Int32))), (0, .ref (ad 0)), (1, .int a1)]) hx hb dX8_putWord_3 rfl hl (by decide) rfl (fun ls hl => ?_)
  exact B4 N ((0 : Int32)) a1 H locs ls h hP hD hS (lv_sub hl [2, 1, 0] rfl)
