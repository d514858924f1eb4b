def f_M_world_71 (N : Nat) (iM22 : Int32) (iM36 : Int32) (iM37 : Int32) (iM66 : Int32) (iM68 : Int32) (aM21 : Nat → Int32) (aM29 : Nat → Int32) (aM32 : Nat → Int32) (aM57 : Nat → Int32) (aM58 : Nat → Int32) (aM59 : Nat → Int32) (aM60 : Nat → Int32) (aM62 : Nat → Int32) (aM67 : Nat → Int32) (aM69 : Nat → Int32) (aM70 : Nat → Int32) (aM71 : Nat → Int32) (k57 : Int32 → Int32 → Int32 → (Nat → Int32) → (Nat → Int32) → (Nat → Int32) → (Nat → Int32) → Option (Int32 × Int32 × Int32 × (Nat → Int32) × (Nat → Int32) × (Nat → Int32) × (Nat → Int32))) (v3 : Int32) : Nat → Int32 → Int32 → Int32 → Int32 → (Nat → Int32) → (Nat → Int32) → (Nat → Int32) → (Nat → Int32) → Option (Int32 × Int32 × Int32 × (Nat → Int32) × (Nat → Int32) × (Nat → Int32) × (Nat → Int32))
  | 0, _, _, _, _, _, _, _, _ => none
  | n + 1, v4, v5, x_iM66, x_iM68, x_aM67, x_aM69, x_aM70, x_aM71 => if iM36 ≤ v5 then (k57 ((v3 + (1 : Int32))) x_iM66 x_iM68 x_aM67 x_aM69 x_aM70 x_aM71) else (if v5 < 0 ∨ 18 ≤ v5.toNatClampNeg then none else (if (aM32 v5.toNatClampNeg) < 0 then (f_M_world_71 N iM22 iM36 iM37 iM66 iM68 aM21 aM29 aM32 aM57 aM58 aM59 aM60 aM62 aM67 aM69 aM70 aM71 k57 v3 n v4 ((v5 + (1 : Int32))) x_iM66 x_iM68 x_aM67 x_aM69 x_aM70 x_aM71) else (if v3 < 0 ∨ 512 ≤ v3.toNatClampNeg then none else (if (((x_aM67 v3.toNatClampNeg) >>> (v5 &&& 31)) &&& (1 : Int32)) = 0 then (f_M_world_71 N iM22 iM36 iM37 iM66 iM68 aM21 aM29 aM32 aM57 aM58 aM59 aM60 aM62 aM67 aM69 aM70 aM71 k57 v3 n v4 ((v5 + (1 : Int32))) x_iM66 x_iM68 x_aM67 x_aM69 x_aM70 x_aM71) else (if (aM32 v5.toNatClampNeg) < 0 ∨ 6 ≤ ((aM32 v5.toNatClampNeg)).toNatClampNeg then none else (if (aM29 ((aM32 v5.toNatClampNeg)).toNatClampNeg) = 0 then ((f_M_addEdge N v3 ((aM32 v5.toNatClampNeg)) (((1 : Int32) <<< (v5 &&& 31))) iM36 x_iM66 x_iM68 aM58 aM59 aM62 x_aM67 x_aM69 x_aM70 x_aM71).bind fun q129 => (f_M_world_71 N iM22 iM36 iM37 iM66 iM68 aM21 aM29 aM32 aM57 aM58 aM59 aM60 aM62 aM67 aM69 aM70 aM71 k57 v3 n v4 ((v5 + (1 : Int32))) q129.1 q129.2.1 q129.2.2.1 q129.2.2.2.1 q129.2.2.2.2.1 q129.2.2.2.2.2)) else (if ((v4 >>> ((aM32 v5.toNatClampNeg) &&& 31)) &&& (1 : Int32)) = 0 then (if (aM32 v5.toNatClampNeg) < 0 ∨ 3 ≤ ((aM32 v5.toNatClampNeg)).toNatClampNeg then none else ((f_M_addEdge N v3 ((aM32 v5.toNatClampNeg)) (((aM60 ((aM32 v5.toNatClampNeg)).toNatClampNeg) &&& (x_aM67 v3.toNatClampNeg))) iM36 x_iM66 x_iM68 aM58 aM59 aM62 x_aM67 x_aM69 x_aM70 x_aM71).bind fun q172 => (f_M_world_71 N iM22 iM36 iM37 iM66 iM68 aM21 aM29 aM32 aM57 aM58 aM59 aM60 aM62 aM67 aM69 aM70 aM71 k57 v3 n ((v4 ||| ((1 : Int32) <<< ((aM32 v5.toNatClampNeg) &&& 31)))) ((v5 + (1 : Int32))) q172.1 q172.2.1 q172.2.2.1 q172.2.2.2.1 q172.2.2.2.2.1 q172.2.2.2.2.2))) else (f_M_world_71 N iM22 iM36 iM37 iM66 iM68 aM21 aM29 aM32 aM57 aM58 aM59 aM60 aM62 aM67 aM69 aM70 aM71 k57 v3 n v4 ((v5 + (1 : Int32))) x_iM66 x_iM68 x_aM67 x_aM69 x_aM70 x_aM71))))))))
def f_M_world_57 (N : Nat) (iM22 : Int32) (iM36 : Int32) (iM37 : Int32) (iM66 : Int32) (iM68 : Int32) (aM21 : Nat → Int32) (aM29 : Nat → Int32) (aM32 : Nat → Int32) (aM57 : Nat → Int32) (aM58 : Nat → Int32) (aM59 : Nat → Int32) (aM60 : Nat → Int32) (aM62 : Nat → Int32) (aM67 : Nat → Int32) (aM69 : Nat → Int32) (aM70 : Nat → Int32) (aM71 : Nat → Int32)  : Nat → Int32 → Int32 → Int32 → (Nat → Int32) → (Nat → Int32) → (Nat → Int32) → (Nat → Int32) → Option (Int32 × Int32 × Int32 × (Nat → Int32) × (Nat → Int32) × (Nat → Int32) × (Nat → Int32))
  | 0, _, _, _, _, _, _, _ => none
  | n + 1, v3, x_iM66, x_iM68, x_aM67, x_aM69, x_aM70, x_aM71 => if x_iM66 ≤ v3 then (some (x_iM66, x_iM66, x_iM68, x_aM67, x_aM69, x_aM70, x_aM71)) else (f_M_world_71 N iM22 iM36 iM37 iM66 iM68 aM21 aM29 aM32 aM57 aM58 aM59 aM60 aM62 aM67 aM69 aM70 aM71 (f_M_world_57 N iM22 iM36 iM37 iM66 iM68 aM21 aM29 aM32 aM57 aM58 aM59 aM60 aM62 aM67 aM69 aM70 aM71 n) v3 N ((0 : Int32)) ((0 : Int32)) x_iM66 x_iM68 x_aM67 x_aM69 x_aM70 x_aM71)
def f_M_world (N : Nat) (a1 : Int32) (iM22 : Int32) (iM36 : Int32) (iM37 : Int32) (iM66 : Int32) (iM68 : Int32) (aM21 : Nat → Int32) (aM29 : Nat → Int32) (aM32 : Nat → Int32) (aM57 : Nat → Int32) (aM58 : Nat → Int32) (aM59 : Nat → Int32) (aM60 : Nat → Int32) (aM62 : Nat → Int32) (aM67 : Nat → Int32) (aM69 : Nat → Int32) (aM70 : Nat → Int32) (aM71 : Nat → Int32) : Option (Int32 × Int32 × Int32 × (Nat → Int32) × (Nat → Int32) × (Nat → Int32) × (Nat → Int32)) := if iM37 = 0 then (some ((-101 : Int32), iM66, iM68, aM67, aM69, aM70, aM71)) else ((f_M_noQuestion a1 iM22).bind fun q12 => (if q12 = 0 then ((f_M_leastOf N a1 iM36 aM21 aM57 aM62).bind fun q33 => (if 0 ≤ q33 then (f_M_world_57 N iM22 iM36 iM37 iM66 iM68 aM21 aM29 aM32 aM57 aM58 aM59 aM60 aM62 aM67 aM69 aM70 aM71 N ((0 : Int32)) ((1 : Int32)) ((0 : Int32)) ((upd aM67 ((0 : Int32)).toNatClampNeg q33)) aM69 aM70 aM71) else (some ((0 : Int32), (0 : Int32), (0 : Int32), aM67, aM69, aM70, aM71)))) else (some ((-102 : Int32), iM66, iM68, aM67, aM69, aM70, aM71))))
set_option maxHeartbeats 8000000 in
set_option maxRecDepth 100000 in
theorem c_M_world (l : Launch) (dC : Nat → ClassId) (dI : Nat → Nat → Nat) (cy : Nat → ClassId) (ad : Nat → Nat) (sz : Nat) (N : Nat) (a1 : Int32) (iM : Nat → Int32) (aM : Nat → Nat → Int32) (q : Int32 × Int32 × Int32 × (Nat → Int32) × (Nat → Int32) × (Nat → Int32) × (Nat → Int32)) (h : f_M_world N a1 (iM 22) (iM 36) (iM 37) (iM 66) (iM 68) (aM 21) (aM 29) (aM 32) (aM 57) (aM 58) (aM 59) (aM 60) (aM 62) (aM 67) (aM 69) (aM 70) (aM 71) = some q) : Met l yX8_world wsX8_world ({ frames := 3, cells := 0, slots := 0, locals := 72 } : Room) (cP (dC, dI) cy [.ref (ad 0), .int a1] (zzM ad cy iM aM) sz) (cQi (dC, dI) cy q.1 (zzM ad cy (us iM [(66, q.2.1), (68, q.2.2.1)]) (us aM [(67, q.2.2.2.1), (69, q.2.2.2.2.1), (70, q.2.2.2.2.2.1), (71, q.2.2.2.2.2.2)])) (va_A (zzM ad cy iM aM) sz)) 0 0 (va_A (zzM ad cy iM aM) sz) := by
  refine Met.ofW (cc := cX8_world) (maxL := 7) (ret := (some .int)) (by decide) rfl ?_
  intro p e s m args below meth c s₁ B hml hv
  obtain ⟨hav, hsz, hP, hK, hD0, hN⟩ := hv
  have hx := B.exec
  have hb := B.bytes
  have hr := B.returns
  have hts := atoms_spec (ws := wsX8_world) B.pre
  have hown : s.vm.findClass RX8 = some m.cls := findClass_of_methodNamed B.named
  have hlocks := B.notSynchronized
  subst hsz
  have hD := hD0.self (sz := s.heap.size)
  generalize hAe : va_A (zzM ad cy iM aM) s.heap.size = A at hD ⊢
  have hA : ∀ q : Nat, s.heap.size ≤ q → A q := fun q h => by rw [← hAe]; exact Or.inr h
  have hS : va_S A s.heap s.heap [] := va_S.rf
  generalize hWQ : (zzM ad cy (us iM [(66, q.2.1), (68, q.2.2.1)]) (us aM [(67, q.2.2.2.1), (69, q.2.2.2.2.1), (70, q.2.2.2.2.2.1), (71, q.2.2.2.2.2.2)])) = WQ
  generalize hQQ : MQ below (cQi (dC, dI) cy q.1 WQ A) args s 0 0 A = QQ
  have hl := lv_entry ([.ref (ad 0), .int a1] : List Value) (n := 7) (Nat.le_of_ble_eq_true rfl)
  have hfr := lg_entry_eq m ([.ref (ad 0), .int a1] : List Value) 7
  rw [← hav] at hfr
  rw [hfr]
  clear hfr hav
  generalize (lg_sl ([.ref (ad 0), .int a1] : List Value) ++ List.replicate (7 - (lg_sl ([.ref (ad 0), .int a1] : List Value)).length) Slot.unset).toArray = ls at hl ⊢
  have hl : lv_has ls 7 [(0, .ref (ad 0)), (1, .int a1)] := hl
  have kf353 := hts _ (List.mem_cons_of_mem _ m_fl_X8_353)
  have ki8 := (fun w h => List.mem_cons_of_mem _ (i_X8 w h) : ∀ w ∈ u_ws RX8 TX8 78, w ∈ wsX8_world)
  have kf73 := hts _ (List.mem_cons_of_mem _ m_fl_X8_73)
  have kf123 := hts _ (List.mem_cons_of_mem _ m_fl_X8_123)
  have kf63 := hts _ (List.mem_cons_of_mem _ m_fl_X8_63)
  have kf111 := hts _ (List.mem_cons_of_mem _ m_fl_X8_111)
  have kf359 := hts _ (List.mem_cons_of_mem _ m_fl_X8_359)
  have kf356 := hts _ (List.mem_cons_of_mem _ m_fl_X8_356)
  have kf362 := hts _ (List.mem_cons_of_mem _ m_fl_X8_362)
  refine (?_ : ∀ (H : Heap) (locs : List Loc), va_P (dC, dI) vwCl (zzM ad cy iM aM) H → va_D A (zzM ad cy iM aM) → va_S A s.heap H locs → W p l e ({ frames := 3, cells := 0, slots := 0, locals := 72 } : Room) s m args below meth c H locs 0 0 QQ (F0 m 0 ls [])) s.heap [] hP hD hS
  clear hP hD hS
  have B71 : ∀ (n : Nat) (v3 : Int32) (k57 : Int32 → Int32 → Int32 → (Nat → Int32) → (Nat → Int32) → (Nat → Int32) → (Nat → Int32) → Option (Int32 × Int32 × Int32 × (Nat → Int32) × (Nat → Int32) × (Nat → Int32) × (Nat → Int32))) (hk57 : ∀ (v3' : Int32) (x_iM66' : Int32) (x_iM68' : Int32) (x_aM67' : Nat → Int32) (x_aM69' : Nat → Int32) (x_aM70' : Nat → Int32) (x_aM71' : Nat → Int32) (H : Heap) (locs : List Loc) (ls : Array Slot), k57 v3' x_iM66' x_iM68' x_aM67' x_aM69' x_aM70' x_aM71' = some q → va_P (dC, dI) vwCl (zzM ad cy (us iM [(66, x_iM66'), (68, x_iM68')]) (us aM [(67, x_aM67'), (69, x_aM69'), (70, x_aM70'), (71, x_aM71')])) H → va_D A (zzM ad cy (us iM [(66, x_iM66'), (68, x_iM68')]) (us aM [(67, x_aM67'), (69, x_aM69'), (70, x_aM70'), (71, x_aM71')])) → va_S A s.heap H locs → lv_has ls 7 [(0, .ref (ad 0)), (3, .int v3')] → W p l e ({ frames := 3, cells := 0, slots := 0, locals := 72 } : Room) s m args below meth c H locs 0 0 QQ (F0 m 57 ls [])) (v4 : Int32) (v5 : Int32) (x_iM66 : Int32) (x_iM68 : Int32) (x_aM67 : Nat → Int32) (x_aM69 : Nat → Int32) (x_aM70 : Nat → Int32) (x_aM71 : Nat → Int32) (H : Heap) (locs : List Loc) (ls : Array Slot), f_M_world_71 N (iM 22) (iM 36) (iM 37) (iM 66) (iM 68) (aM 21) (aM 29) (aM 32) (aM 57) (aM 58) (aM 59) (aM 60) (aM 62) (aM 67) (aM 69) (aM 70) (aM 71) k57 v3 n v4 v5 x_iM66 x_iM68 x_aM67 x_aM69 x_aM70 x_aM71 = some q → va_P (dC, dI) vwCl (zzM ad cy (us iM [(66, x_iM66), (68, x_iM68)]) (us aM [(67, x_aM67), (69, x_aM69), (70, x_aM70), (71, x_aM71)])) H → va_D A (zzM ad cy (us iM [(66, x_iM66), (68, x_iM68)]) (us aM [(67, x_aM67), (69, x_aM69), (70, x_aM70), (71, x_aM71)])) → va_S A s.heap H locs → lv_has ls 7 [(0, .ref (ad 0)), (3, .int v3), (4, .int v4), (5, .int v5)] → W p l e ({ frames := 3, cells := 0, slots := 0, locals := 72 } : Room) s m args below meth c H locs 0 0 QQ (F0 m 71 ls []) := by
    intro n
    induction n with
    | zero =>
      intro v3 k57 hk57 v4 v5 x_iM66 x_iM68 x_aM67 x_aM69 x_aM70 x_aM71 H locs ls h hP hD hS hl
      rw [f_M_world_71] at h
      cases h
    | succ n ih =>
      intro v3 k57 hk57 v4 v5 x_iM66 x_iM68 x_aM67 x_aM69 x_aM70 x_aM71 H locs ls h hP hD hS hl
      rw [f_M_world_71] at h
      refine lv_iload hx hb dX8_world_71 (lv_at hl 3 rfl) ?_
      refine lv_aload_n hx hb dX8_world_73 rfl (lv_at hl 0 rfl) ?_
      refine va_get (D := (dC, dI)) (ci := 8) (v := .int (iM 36)) (C := RX8) (T := TX8) (N := 78) hx hb hts ki8 hown hK hP 0 rfl rfl 36 (by decide) kf353 (fun _ h9 => h9) rfl dX8_world_74 ?_
      refine lv_icmp_ge (tgt := 181) hx hb dX8_world_77 (by decide) (fun cz => ?_) (fun cz => ?_)
      · have h := g_t h cz
        refine lv_iinc (v := (v3 + (1 : Int32))) (lv' := [(3, .int ((v3 + (1 : Int32)))), (0, .ref (ad 0)), (4, .int v4), (5, .int v5)]) hx hb dX8_world_181 hl (k := 1) rfl rfl (by decide) rfl (fun ls hl => ?_)
        refine lv_goto (tgt := 57) hx hb dX8_world_184 (by decide) ?_
        exact hk57 ((v3 + (1 : Int32))) x_iM66 x_iM68 x_aM67 x_aM69 x_aM70 x_aM71 H locs ls h hP hD hS (lv_sub hl [1, 0] rfl)
      · have h := g_f h cz
        refine lv_aload_n hx hb dX8_world_80 rfl (lv_at hl 0 rfl) ?_
        refine va_get (D := (dC, dI)) (ci := 8) (v := .ref (ad 21)) (C := RX8) (T := TX8) (N := 78) hx hb hts ki8 hown hK hP 0 rfl rfl 32 (by decide) kf73 (fun _ h9 => h9) rfl dX8_world_81 ?_
        refine lv_iload hx hb dX8_world_84 (lv_at hl 3 rfl) ?_
        obtain ⟨g_135, h⟩ := g_n h
        refine va_iald (f := (aM 32)) hx hb hK hP 21 0 rfl rfl g_135 dX8_world_86 ?_
        refine lv_istore (lv' := [(6, .int (((aM 32) v5.toNatClampNeg))), (0, .ref (ad 0)), (3, .int v3), (4, .int v4), (5, .int v5)]) hx hb dX8_world_87 hl (by decide) rfl (fun ls hl => ?_)
        refine lv_iload hx hb dX8_world_89 (lv_at hl 0 rfl) ?_
        refine lv_if_lt (tgt := 175) hx hb dX8_world_91 (by decide) (fun cz => ?_) (fun cz => ?_)
        · have h := g_t h cz
          refine lv_iinc (v := (v5 + (1 : Int32))) (lv' := [(5, .int ((v5 + (1 : Int32)))), (6, .int (((aM 32) v5.toNatClampNeg))), (0, .ref (ad 0)), (3, .int v3), (4, .int v4)]) hx hb dX8_world_175 hl (k := 4) rfl rfl (by decide) rfl (fun ls hl => ?_)
          refine lv_goto (tgt := 71) hx hb dX8_world_178 (by decide) ?_
          exact ih v3 k57 hk57 v4 ((v5 + (1 : Int32))) x_iM66 x_iM68 x_aM67 x_aM69 x_aM70 x_aM71 H locs ls h hP hD hS (lv_sub hl [2, 3, 4, 0] rfl)
        · have h := g_f h cz
          refine lv_aload_n hx hb dX8_world_94 rfl (lv_at hl 1 rfl) ?_
          refine va_get (D := (dC, dI)) (ci := 8) (v := .ref (ad 36)) (C := RX8) (T := TX8) (N := 78) hx hb hts ki8 hown hK hP 0 rfl rfl 67 (by decide) kf123 (fun _ h9 => h9) rfl dX8_world_95 ?_
          refine lv_iload_n hx hb dX8_world_98 rfl (lv_at hl 2 rfl) ?_
          obtain ⟨g_136, h⟩ := g_n h
          refine va_iald (f := x_aM67) hx hb hK hP 36 0 rfl rfl g_136 dX8_world_99 ?_
          refine lv_iload hx hb dX8_world_100 (lv_at hl 4 rfl) ?_
          refine lv_ishr hx hb dX8_world_102 ?_
          refine lv_iconst (v := 1) hx hb dX8_world_103 (by decide) ?_
          refine lv_iand hx hb dX8_world_104 ?_
          refine lv_if_ne (tgt := 111) hx hb dX8_world_105 (by decide) (fun cz => ?_) (fun cz => ?_)
          · have h := g_f h cz
            refine lv_aload_n hx hb dX8_world_111 rfl (lv_at hl 1 rfl) ?_
            refine va_get (D := (dC, dI)) (ci := 8) (v := .ref (ad 18)) (C := RX8) (T := TX8) (N := 78) hx hb hts ki8 hown hK hP 0 rfl rfl 29 (by decide) kf63 (fun _ h9 => h9) rfl dX8_world_112 ?_
            refine lv_iload hx hb dX8_world_115 (lv_at hl 0 rfl) ?_
            obtain ⟨g_137, h⟩ := g_n h
            refine va_zald (f := (aM 29)) hx hb hK hP 18 4 rfl rfl g_137 dX8_world_117 ?_
            refine lv_if_ne (tgt := 135) hx hb dX8_world_118 (by decide) (fun cz => ?_) (fun cz => ?_)
            · have h := g_f h cz
              refine lv_iload hx hb dX8_world_135 (lv_at hl 3 rfl) ?_
              refine lv_iload hx hb dX8_world_137 (lv_at hl 0 rfl) ?_
              refine lv_ishr hx hb dX8_world_139 ?_
              refine lv_iconst (v := 1) hx hb dX8_world_140 (by decide) ?_
              refine lv_iand hx hb dX8_world_141 ?_
              refine lv_if_ne (tgt := 175) hx hb dX8_world_142 (by decide) (fun cz => ?_) (fun cz => ?_)
              · have h := g_f h cz
                refine lv_iinc (v := (v5 + (1 : Int32))) (lv' := [(5, .int ((v5 + (1 : Int32)))), (6, .int (((aM 32) v5.toNatClampNeg))), (0, .ref (ad 0)), (3, .int v3), (4, .int v4)]) hx hb dX8_world_175 hl (k := 4) rfl rfl (by decide) rfl (fun ls hl => ?_)
                refine lv_goto (tgt := 71) hx hb dX8_world_178 (by decide) ?_
                exact ih v3 k57 hk57 v4 ((v5 + (1 : Int32))) x_iM66 x_iM68 x_aM67 x_aM69 x_aM70 x_aM71 H locs ls h hP hD hS (lv_sub hl [2, 3, 4, 0] rfl)
              · have h := g_t h cz
                refine lv_iload hx hb dX8_world_145 (lv_at hl 3 rfl) ?_
                refine lv_iconst (v := 1) hx hb dX8_world_147 (by decide) ?_
                refine lv_iload hx hb dX8_world_148 (lv_at hl 0 rfl) ?_
                refine lv_ishl hx hb dX8_world_150 ?_
                refine lv_ior hx hb dX8_world_151 ?_
                refine lv_istore (lv' := [(4, .int ((v4 ||| ((1 : Int32) <<< (((aM 32) v5.toNatClampNeg) &&& 31))))), (6, .int (((aM 32) v5.toNatClampNeg))), (0, .ref (ad 0)), (3, .int v3), (5, .int v5)]) hx hb dX8_world_152 hl (by decide) rfl (fun ls hl => ?_)
                refine lv_aload_n hx hb dX8_world_154 rfl (lv_at hl 2 rfl) ?_
                refine lv_iload_n hx hb dX8_world_155 rfl (lv_at hl 3 rfl) ?_
                refine lv_iload hx hb dX8_world_156 (lv_at hl 1 rfl) ?_
                refine lv_aload_n hx hb dX8_world_158 rfl (lv_at hl 2 rfl) ?_
                refine va_get (D := (dC, dI)) (ci := 8) (v := .ref (ad 32)) (C := RX8) (T := TX8) (N := 78) hx hb hts ki8 hown hK hP 0 rfl rfl 60 (by decide) kf111 (fun _ h9 => h9) rfl dX8_world_159 ?_
                refine lv_iload hx hb dX8_world_162 (lv_at hl 1 rfl) ?_
                obtain ⟨g_138, h⟩ := g_n h
                refine va_iald (f := (aM 60)) hx hb hK hP 32 0 rfl rfl g_138 dX8_world_164 ?_
                refine lv_aload_n hx hb dX8_world_165 rfl (lv_at hl 2 rfl) ?_
                refine va_get (D := (dC, dI)) (ci := 8) (v := .ref (ad 36)) (C := RX8) (T := TX8) (N := 78) hx hb hts ki8 hown hK hP 0 rfl rfl 67 (by decide) kf123 (fun _ h9 => h9) rfl dX8_world_166 ?_
                refine lv_iload_n hx hb dX8_world_169 rfl (lv_at hl 3 rfl) ?_
                refine va_iald (f := x_aM67) hx hb hK hP 36 0 rfl rfl g_136 dX8_world_170 ?_
                refine lv_iand hx hb dX8_world_171 ?_
                obtain ⟨q172, e172, h⟩ := g_b h
                refine callVvs (cc := cX8_world) (w1 := zzM ad cy (us iM [(66, q172.1), (68, q172.2.1)]) (us aM [(67, q172.2.2.1), (69, q172.2.2.2.1), (70, q172.2.2.2.2.1), (71, q172.2.2.2.2.2)])) (As := [.int v3, .int (((aM 32) v5.toNatClampNeg)), .int ((((aM 60) (((aM 32) v5.toNatClampNeg)).toNatClampNeg) &&& (x_aM67 v3.toNatClampNeg)))]) (rest := []) ⟨hx, hb, hml, hown, hts⟩ (c_M_addEdge l dC dI cy ad H.size N v3 (((aM 32) v5.toNatClampNeg)) ((((aM 60) (((aM 32) v5.toNatClampNeg)).toNatClampNeg) &&& (x_aM67 v3.toNatClampNeg))) ((us iM [(66, x_iM66), (68, x_iM68)])) ((us aM [(67, x_aM67), (69, x_aM69), (70, x_aM70), (71, x_aM71)])) q172 e172) (cwV 3 hts (goodV m_ml_X8_435 m_im_X8_addEdge m_se_X8_addEdge m_in_X8 m_cd_X8_addEdge) rfl rfl rfl (by decide +kernel) ⟨Nat.le_of_ble_eq_true rfl, Nat.le_of_ble_eq_true rfl⟩) hN hK hP hD hS hA rfl 0 rfl rfl rfl hl.1 rfl (Nat.le_of_ble_eq_true rfl) dX8_world_172 ⟨Nat.zero_le _, Nat.zero_le _⟩ (fun H locs hP hD hS => ?_)
                refine lv_iinc (v := (v5 + (1 : Int32))) (lv' := [(5, .int ((v5 + (1 : Int32)))), (4, .int ((v4 ||| ((1 : Int32) <<< (((aM 32) v5.toNatClampNeg) &&& 31))))), (6, .int (((aM 32) v5.toNatClampNeg))), (0, .ref (ad 0)), (3, .int v3)]) hx hb dX8_world_175 hl (k := 4) rfl rfl (by decide) rfl (fun ls hl => ?_)
                refine lv_goto (tgt := 71) hx hb dX8_world_178 (by decide) ?_
                exact ih v3 k57 hk57 ((v4 ||| ((1 : Int32) <<< (((aM 32) v5.toNatClampNeg) &&& 31)))) ((v5 + (1 : Int32))) q172.1 q172.2.1 q172.2.2.1 q172.2.2.2.1 q172.2.2.2.2.1 q172.2.2.2.2.2 H locs ls h hP hD hS (lv_sub hl [3, 4, 1, 0] rfl)
            · have h := g_t h cz
              refine lv_aload_n hx hb dX8_world_121 rfl (lv_at hl 1 rfl) ?_
              refine lv_iload_n hx hb dX8_world_122 rfl (lv_at hl 2 rfl) ?_
              refine lv_iload hx hb dX8_world_123 (lv_at hl 0 rfl) ?_
              refine lv_iconst (v := 1) hx hb dX8_world_125 (by decide) ?_
              refine lv_iload hx hb dX8_world_126 (lv_at hl 4 rfl) ?_
              refine lv_ishl hx hb dX8_world_128 ?_
              obtain ⟨q129, e129, h⟩ := g_b h
              refine callVvs (cc := cX8_world) (w1 := zzM ad cy (us iM [(66, q129.1), (68, q129.2.1)]) (us aM [(67, q129.2.2.1), (69, q129.2.2.2.1), (70, q129.2.2.2.2.1), (71, q129.2.2.2.2.2)])) (As := [.int v3, .int (((aM 32) v5.toNatClampNeg)), .int (((1 : Int32) <<< (v5 &&& 31)))]) (rest := []) ⟨hx, hb, hml, hown, hts⟩ (c_M_addEdge l dC dI cy ad H.size N v3 (((aM 32) v5.toNatClampNeg)) (((1 : Int32) <<< (v5 &&& 31))) ((us iM [(66, x_iM66), (68, x_iM68)])) ((us aM [(67, x_aM67), (69, x_aM69), (70, x_aM70), (71, x_aM71)])) q129 e129) (cwV 3 hts (goodV m_ml_X8_435 m_im_X8_addEdge m_se_X8_addEdge m_in_X8 m_cd_X8_addEdge) rfl rfl rfl (by decide +kernel) ⟨Nat.le_of_ble_eq_true rfl, Nat.le_of_ble_eq_true rfl⟩) hN hK hP hD hS hA rfl 0 rfl rfl rfl hl.1 rfl (Nat.le_of_ble_eq_true rfl) dX8_world_129 ⟨Nat.zero_le _, Nat.zero_le _⟩ (fun H locs hP hD hS => ?_)
              refine lv_goto (tgt := 175) hx hb dX8_world_132 (by decide) ?_
              refine lv_iinc (v := (v5 + (1 : Int32))) (lv' := [(5, .int ((v5 + (1 : Int32)))), (6, .int (((aM 32) v5.toNatClampNeg))), (0, .ref (ad 0)), (3, .int v3), (4, .int v4)]) hx hb dX8_world_175 hl (k := 4) rfl rfl (by decide) rfl (fun ls hl => ?_)
              refine lv_goto (tgt := 71) hx hb dX8_world_178 (by decide) ?_
              exact ih v3 k57 hk57 v4 ((v5 + (1 : Int32))) q129.1 q129.2.1 q129.2.2.1 q129.2.2.2.1 q129.2.2.2.2.1 q129.2.2.2.2.2 H locs ls h hP hD hS (lv_sub hl [2, 3, 4, 0] rfl)
          · have h := g_t h cz
            refine lv_goto (tgt := 175) hx hb dX8_world_108 (by decide) ?_
            refine lv_iinc (v := (v5 + (1 : Int32))) (lv' := [(5, .int ((v5 + (1 : Int32)))), (6, .int (((aM 32) v5.toNatClampNeg))), (0, .ref (ad 0)), (3, .int v3), (4, .int v4)]) hx hb dX8_world_175 hl (k := 4) rfl rfl (by decide) rfl (fun ls hl => ?_)
            refine lv_goto (tgt := 71) hx hb dX8_world_178 (by decide) ?_
            exact ih v3 k57 hk57 v4 ((v5 + (1 : Int32))) x_iM66 x_iM68 x_aM67 x_aM69 x_aM70 x_aM71 H locs ls h hP hD hS (lv_sub hl [2, 3, 4, 0] rfl)
  have B57 : ∀ (n : Nat) (v3 : Int32) (x_iM66 : Int32) (x_iM68 : Int32) (x_aM67 : Nat → Int32) (x_aM69 : Nat → Int32) (x_aM70 : Nat → Int32) (x_aM71 : Nat → Int32) (H : Heap) (locs : List Loc) (ls : Array Slot), f_M_world_57 N (iM 22) (iM 36) (iM 37) (iM 66) (iM 68) (aM 21) (aM 29) (aM 32) (aM 57) (aM 58) (aM 59) (aM 60) (aM 62) (aM 67) (aM 69) (aM 70) (aM 71) n v3 x_iM66 x_iM68 x_aM67 x_aM69 x_aM70 x_aM71 = some q → va_P (dC, dI) vwCl (zzM ad cy (us iM [(66, x_iM66), (68, x_iM68)]) (us aM [(67, x_aM67), (69, x_aM69), (70, x_aM70), (71, x_aM71)])) H → va_D A (zzM ad cy (us iM [(66, x_iM66), (68, x_iM68)]) (us aM [(67, x_aM67), (69, x_aM69), (70, x_aM70), (71, x_aM71)])) → va_S A s.heap H locs → lv_has ls 7 [(0, .ref (ad 0)), (3, .int v3)] → W p l e ({ frames := 3, cells := 0, slots := 0, locals := 72 } : Room) s m args below meth c H locs 0 0 QQ (F0 m 57 ls []) := by
    intro n
    induction n with
    | zero =>
      intro v3 x_iM66 x_iM68 x_aM67 x_aM69 x_aM70 x_aM71 H locs ls h hP hD hS hl
      rw [f_M_world_57] at h
      cases h
    | succ n ih =>
      intro v3 x_iM66 x_iM68 x_aM67 x_aM69 x_aM70 x_aM71 H locs ls h hP hD hS hl
      rw [f_M_world_57] at h
      refine lv_iload_n hx hb dX8_world_57 rfl (lv_at hl 1 rfl) ?_
      refine lv_aload_n hx hb dX8_world_58 rfl (lv_at hl 0 rfl) ?_
      refine va_get (D := (dC, dI)) (ci := 8) (v := .int x_iM66) (C := RX8) (T := TX8) (N := 78) hx hb hts ki8 hown hK hP 0 rfl rfl 66 (by decide) kf359 (fun _ h9 => h9) rfl dX8_world_59 ?_
      refine lv_icmp_ge (tgt := 187) hx hb dX8_world_62 (by decide) (fun cz => ?_) (fun cz => ?_)
      · have h := g_t h cz
        refine lv_aload_n hx hb dX8_world_187 rfl (lv_at hl 0 rfl) ?_
        refine va_get (D := (dC, dI)) (ci := 8) (v := .int x_iM66) (C := RX8) (T := TX8) (N := 78) hx hb hts ki8 hown hK hP 0 rfl rfl 66 (by decide) kf359 (fun _ h9 => h9) rfl dX8_world_188 ?_
        have h' := Option.some.inj h
        rw [← hQQ]
        exact W.iret (v := x_iM66) hx hb hr (fun t ht hW => ⟨⟨x_iM66, (), rfl, by rw [← h'], by rw [← hWQ, ← h', ht]; exact hP, va_K.moved hW.alike hK⟩, hS.F ht⟩) hS.2.2 dX8_world_191
      · have h := g_f h cz
        refine lv_iconst (v := 0) hx hb dX8_world_65 (by decide) ?_
        refine lv_istore (lv' := [(4, .int ((0 : Int32))), (0, .ref (ad 0)), (3, .int v3)]) hx hb dX8_world_66 hl (by decide) rfl (fun ls hl => ?_)
        refine lv_iconst (v := 0) hx hb dX8_world_68 (by decide) ?_
        refine lv_istore (lv' := [(5, .int ((0 : Int32))), (4, .int ((0 : Int32))), (0, .ref (ad 0)), (3, .int v3)]) hx hb dX8_world_69 hl (by decide) rfl (fun ls hl => ?_)
        exact B71 N v3 (f_M_world_57 N (iM 22) (iM 36) (iM 37) (iM 66) (iM 68) (aM 21) (aM 29) (aM 32) (aM 57) (aM 58) (aM 59) (aM 60) (aM 62) (aM 67) (aM 69) (aM 70) (aM 71) n) ih ((0 : Int32)) ((0 : Int32)) x_iM66 x_iM68 x_aM67 x_aM69 x_aM70 x_aM71 H locs ls h hP hD hS (lv_sub hl [2, 3, 1, 0] rfl)
  intro H locs hP hD hS
  unfold f_M_world at h
  refine lv_aload_n hx hb dX8_world_0 rfl (lv_at hl 0 rfl) ?_
  refine va_get (D := (dC, dI)) (ci := 8) (v := .int (iM 37)) (C := RX8) (T := TX8) (N := 78) hx hb hts ki8 hown hK hP 0 rfl rfl 37 (by decide) kf356 (fun _ h9 => h9) rfl dX8_world_1 ?_
  refine lv_if_ne (tgt := 10) hx hb dX8_world_4 (by decide) (fun cz => ?_) (fun cz => ?_)
  · have h := g_f h cz
    refine lv_aload_n hx hb dX8_world_10 rfl (lv_at hl 0 rfl) ?_
    refine lv_iload_n hx hb dX8_world_11 rfl (lv_at hl 1 rfl) ?_
    obtain ⟨q12, e12, h⟩ := g_b h
    refine callVis (cc := cX8_world) (w1 := zzM ad cy iM aM) (As := [.int a1]) (rest := []) ⟨hx, hb, hml, hown, hts⟩ (c_M_noQuestion l dC dI cy ad H.size a1 iM aM q12 e12) (cwV 1 hts (goodV m_ml_X8_411 m_im_X8_noQuestion m_se_X8_noQuestion m_in_X8 m_cd_X8_noQuestion) rfl rfl rfl (by decide +kernel) ⟨Nat.le_of_ble_eq_true rfl, Nat.le_of_ble_eq_true rfl⟩) hN hK hP hD hS hA rfl 0 rfl rfl rfl hl.1 rfl (Nat.le_of_ble_eq_true rfl) dX8_world_12 ⟨Nat.zero_le _, Nat.zero_le _⟩ (fun H locs hP hD hS => ?_)
    refine lv_if_eq (tgt := 21) hx hb dX8_world_15 (by decide) (fun cz => ?_) (fun cz => ?_)
    · have h := g_t h cz
      refine lv_aload_n hx hb dX8_world_21 rfl (lv_at hl 0 rfl) ?_
      refine lv_iconst (v := 0) hx hb dX8_world_22 (by decide) ?_
      refine va_put (D := (dC, dI)) (ci := 8) (v := .int ((0 : Int32))) (ty := .int) (C := RX8) (T := TX8) (N := 78) hx hb hts ki8 tyX8 tyX8_ok nmX8 hown hK hP hD hS 0 rfl rfl 66 (by decide) kf359 (fun _ h9 => h9) rfl (by decide +kernel) rfl rfl (Nat.le_of_ble_eq_true rfl) dX8_world_23 (fun H locs hP hD hS => ?_)
      have hP : va_P (dC, dI) vwCl (zzM ad cy (us iM [(66, (0 : Int32))]) aM) H := Eq.mp (congrArg (fun w => va_P (dC, dI) vwCl w H) (sfM_iM66 ad cy iM aM ((0 : Int32)))) hP
      have hD : va_D A (zzM ad cy (us iM [(66, (0 : Int32))]) aM) := Eq.mp (congrArg (fun w => va_D A w) (sfM_iM66 ad cy iM aM ((0 : Int32)))) hD
      refine lv_aload_n hx hb dX8_world_26 rfl (lv_at hl 0 rfl) ?_
      refine lv_iconst (v := 0) hx hb dX8_world_27 (by decide) ?_
      refine va_put (D := (dC, dI)) (ci := 8) (v := .int ((0 : Int32))) (ty := .int) (C := RX8) (T := TX8) (N := 78) hx hb hts ki8 tyX8 tyX8_ok nmX8 hown hK hP hD hS 0 rfl rfl 68 (by decide) kf362 (fun _ h9 => h9) rfl (by decide +kernel) rfl rfl (Nat.le_of_ble_eq_true rfl) dX8_world_28 (fun H locs hP hD hS => ?_)
      have hP : va_P (dC, dI) vwCl (zzM ad cy (us iM [(66, (0 : Int32)), (68, (0 : Int32))]) aM) H := Eq.mp (congrArg (fun w => va_P (dC, dI) vwCl w H) (stM_iM68 ad cy iM aM [(66, (0 : Int32))] ((0 : Int32)))) hP
      have hD : va_D A (zzM ad cy (us iM [(66, (0 : Int32)), (68, (0 : Int32))]) aM) := Eq.mp (congrArg (fun w => va_D A w) (stM_iM68 ad cy iM aM [(66, (0 : Int32))] ((0 : Int32)))) hD
      refine lv_aload_n hx hb dX8_world_31 rfl (lv_at hl 0 rfl) ?_
      refine lv_iload_n hx hb dX8_world_32 rfl (lv_at hl 1 rfl) ?_
      obtain ⟨q33, e33, h⟩ := g_b h
      refine callVis (cc := cX8_world) (w1 := zzM ad cy (us iM [(66, (0 : Int32)), (68, (0 : Int32))]) aM) (As := [.int a1]) (rest := []) ⟨hx, hb, hml, hown, hts⟩ (c_M_leastOf l dC dI cy ad H.size N a1 ((us iM [(66, (0 : Int32)), (68, (0 : Int32))])) aM q33 e33) (cwV 1 hts (goodV m_ml_X8_417 m_im_X8_leastOf m_se_X8_leastOf m_in_X8 m_cd_X8_leastOf) rfl rfl rfl (by decide +kernel) ⟨Nat.le_of_ble_eq_true rfl, Nat.le_of_ble_eq_true rfl⟩) hN hK hP hD hS hA rfl 0 rfl rfl rfl hl.1 rfl (Nat.le_of_ble_eq_true rfl) dX8_world_33 ⟨Nat.zero_le _, Nat.zero_le _⟩ (fun H locs hP hD hS => ?_)
      refine lv_istore_n (lv' := [(2, .int q33), (0, .ref (ad 0)), (1, .int a1)]) hx hb dX8_world_36 rfl hl (by decide) rfl (fun ls hl => ?_)
      refine lv_iload_n hx hb dX8_world_37 rfl (lv_at hl 0 rfl) ?_
      refine lv_if_ge (tgt := 43) hx hb dX8_world_38 (by decide) (fun cz => ?_) (fun cz => ?_)
      · have h := g_t h cz
        refine lv_aload_n hx hb dX8_world_43 rfl (lv_at hl 1 rfl) ?_
        refine va_get (D := (dC, dI)) (ci := 8) (v := .ref (ad 36)) (C := RX8) (T := TX8) (N := 78) hx hb hts ki8 hown hK hP 0 rfl rfl 67 (by decide) kf123 (fun _ h9 => h9) rfl dX8_world_44 ?_
        refine lv_iconst (v := 0) hx hb dX8_world_47 (by decide) ?_
        refine lv_iload_n hx hb dX8_world_48 rfl (lv_at hl 0 rfl) ?_
        refine va_iast (f := (aM 67)) hx hb hK hP hD hS 36 0 rfl rfl (by unfold vp_in; decide) dX8_world_49 (fun H locs hP hD hS => ?_)
        have hP : va_P (dC, dI) vwCl (zzM ad cy (us iM [(66, (0 : Int32)), (68, (0 : Int32))]) (us aM [(67, (upd (aM 67) ((0 : Int32)).toNatClampNeg q33))])) H := Eq.mp (congrArg (fun w => va_P (dC, dI) vwCl w H) (sfM_aM67 ad cy (us iM [(66, (0 : Int32)), (68, (0 : Int32))]) aM ((upd (aM 67) ((0 : Int32)).toNatClampNeg q33)))) hP
        have hD : va_D A (zzM ad cy (us iM [(66, (0 : Int32)), (68, (0 : Int32))]) (us aM [(67, (upd (aM 67) ((0 : Int32)).toNatClampNeg q33))])) := Eq.mp (congrArg (fun w => va_D A w) (sfM_aM67 ad cy (us iM [(66, (0 : Int32)), (68, (0 : Int32))]) aM ((upd (aM 67) ((0 : Int32)).toNatClampNeg q33)))) hD
        refine lv_aload_n hx hb dX8_world_50 rfl (lv_at hl 1 rfl) ?_
        refine lv_iconst (v := 1) hx hb dX8_world_51 (by decide) ?_
        refine va_put (D := (dC, dI)) (ci := 8) (v := .int ((1 : Int32))) (ty := .int) (C := RX8) (T := TX8) (N := 78) hx hb hts ki8 tyX8 tyX8_ok nmX8 hown hK hP hD hS 0 rfl rfl 66 (by decide) kf359 (fun _ h9 => h9) rfl (by decide +kernel) rfl rfl (Nat.le_of_ble_eq_true rfl) dX8_world_52 (fun H locs hP hD hS => ?_)
        have hP : va_P (dC, dI) vwCl (zzM ad cy (us iM [(66, (1 : Int32)), (68, (0 : Int32))]) (us aM [(67, (upd (aM 67) ((0 : Int32)).toNatClampNeg q33))])) H := Eq.mp (congrArg (fun w => va_P (dC, dI) vwCl w H) (stM_iM66 ad cy iM (us aM [(67, (upd (aM 67) ((0 : Int32)).toNatClampNeg q33))]) [(66, (0 : Int32)), (68, (0 : Int32))] ((1 : Int32)))) hP
        have hD : va_D A (zzM ad cy (us iM [(66, (1 : Int32)), (68, (0 : Int32))]) (us aM [(67, (upd (aM 67) ((0 : Int32)).toNatClampNeg q33))])) := Eq.mp (congrArg (fun w => va_D A w) (stM_iM66 ad cy iM (us aM [(67, (upd (aM 67) ((0 : Int32)).toNatClampNeg q33))]) [(66, (0 : Int32)), (68, (0 : Int32))] ((1 : Int32)))) hD
        refine lv_iconst (v := 0) hx hb dX8_world_55 (by decide) ?_
        refine lv_istore_n (lv' := [(3, .int ((0 : Int32))), (2, .int q33), (0, .ref (ad 0)), (1, .int a1)]) hx hb dX8_world_56 rfl hl (by decide) rfl (fun ls hl => ?_)
        exact B57 N ((0 : Int32)) ((1 : Int32)) ((0 : Int32)) ((upd (aM 67) ((0 : Int32)).toNatClampNeg q33)) (aM 69) (aM 70) (aM 71) H locs ls h hP hD hS (lv_sub hl [2, 0] rfl)
      · have h := g_f h cz
        refine lv_iconst (v := 0) hx hb dX8_world_41 (by decide) ?_
        have h' := Option.some.inj h
        rw [← hQQ]
        exact W.iret (v := (0 : Int32)) hx hb hr (fun t ht hW => ⟨⟨(0 : Int32), (), rfl, by rw [← h'], by rw [← hWQ, ← h', ht]; exact hP, va_K.moved hW.alike hK⟩, hS.F ht⟩) hS.2.2 dX8_world_42
    · have h := g_f h cz
      refine lv_bipush (v := (-102)) hx hb dX8_world_18 (by decide) ?_
      have h' := Option.some.inj h
      rw [← hQQ]
      exact W.iret (v := (-102 : Int32)) hx hb hr (fun t ht hW => ⟨⟨(-102 : Int32), (), rfl, by rw [← h'], by rw [← hWQ, ← h', ht]; exact hP, va_K.moved hW.alike hK⟩, hS.F ht⟩) hS.2.2 dX8_world_20
  · have h := g_t h cz
    refine lv_bipush (v := (-101)) hx hb dX8_world_7 (by decide) ?_
    have h' := Option.some.inj h
    rw [← hQQ]
    exact W.iret (v := (-101 : Int32)) hx hb hr (fun t ht hW => ⟨⟨(-101 : Int32), (), rfl, by rw [← h'], by rw [← hWQ, ← h', ht]; exact hP, va_K.moved hW.alike hK⟩, hS.F ht⟩) hS.2.2 dX8_world_9
