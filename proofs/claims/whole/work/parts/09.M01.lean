section ZM
variable {E : zEn} {cc : ByteArray} {own : String} {nL h : Nat} {ret : Option FieldType} {Z : zLay} {α : Type} {QQ : α → zMem → State → Prop} {pc : Nat} {L : List (Nat × Value)} {st : List Value} {σ : zMem} {o o1 o2 : Option (α × zMem)}
def f_X11_is (F : Nat) (σ : zMem) (a1 : Int32) (a2 : Nat) : Option (Int32 × zMem) := zg (decide (a2 < 28)) (zb (f_X11_text F (zwi σ 60 0 60 a1) a2) fun r7 m7 => zg (zbo r7) (some (r7, m7)))
set_option maxHeartbeats 4000000 in
set_option maxRecDepth 100000 in
theorem c_X11_is (l : Launch) (Z : zLay) (F : Nat) (σ : zMem) (a1 : Int32) (a2 : Nat) (r : Int32) (σ1 : zMem) (ho : f_X11_is F σ a1 a2 = some (r, σ1)) : zMet l yX11_is cX11_is 3 (some .boolean) 6 Z [.ref (zad Z 60 0), .int (a1), .ref (zad Z 180 a2)] σ (zQI Z r σ1) := by
  refine zMet_of (Qc := zQI Z) (by decide) (Nat.le_of_ble_eq_true rfl) [(0, .ref (zad Z 60 0)), (1, .int (a1)), (2, .ref (zad Z 180 a2))] rfl (fun E C => ?_) ho
  have hh : 6 ≤ 6 := Nat.le_refl _
  show zKO E 3 Z (zMQ E Z (zQI Z)) 0 [(0, .ref (zad Z 60 0)), (1, .int (a1)), (2, .ref (zad Z 180 a2))] [] σ _
  unfold f_X11_is
  refine zr_g (fun ha2 => ?_)
  refine zr_aload_n C dX11_is_0 rfl ?_
  refine zr_iload_n C dX11_is_1 rfl ?_
  refine zp_X11_238 C (Nat.le_of_ble_eq_true rfl) dX11_is_2 ?_
  refine zr_aload_n C dX11_is_5 rfl ?_
  refine zr_aload_n C dX11_is_6 rfl ?_
  refine zk_X11_241 C F (Nat.le_of_ble_eq_true rfl) (Nat.le_trans (by decide) hh) (by simp [Value.category]) dX11_is_7 (fun r7 m7 => ?_)
  exact zr_zretg C dX11_is_10
theorem zk_X11_247 (C : zCx E cc RX11 nL ret Z h) (F : Nat) {b0 : Int32} {b1 : Nat} (hk : 0 < zN 60) (hh : 6 + 1 ≤ h) (hst8 : (st.map fun v => v.category).sum ≤ 8) (hd : decode cc pc = .ok (.invokevirtual 247, 3)) {g : Int32 → zMem → Option (α × zMem)} (kk : ∀ (r : Int32) (σ1 : zMem), zKO E nL Z QQ (pc + 3) L (.int r :: st) σ1 (g r σ1)) : zKO E nL Z QQ pc L (.ref (zad Z 180 b1) :: .int b0 :: .ref (zad Z 60 0) :: st) σ (zb (f_X11_is F σ b0 b1) g) :=
  zr_callVI (As := [.int b0, .ref (zad Z 180 b1)]) (ia := 2) C (fun r σ1 ho => c_X11_is (zla E) Z F σ b0 b1 r σ1 ho) wz_1396 hk rfl rfl wz_p91 wz_1398 wz_1399 wz_12 (by decide +kernel) rfl (by decide) hh hd hst8 kk
def f_X11_keyHere_172 (F : Nat) (σ : zMem) : Option (Int32 × zMem) := zb (f_X11_is F σ 7 13) fun r178 m178 => zg (zbo r178) (some (r178, m178))
set_option maxHeartbeats 4000000 in
set_option maxRecDepth 100000 in
theorem c_X11_keyHere_172 (F : Nat) {E : zEn} {h : Nat} {Z : zLay} (C : zCx E cX11_keyHere RX11 1 (some .boolean) Z h) (hh : 7 ≤ h) (σ : zMem) : zKO E 1 Z (zMQ E Z (zQI Z)) 172 [(0, .ref (zad Z 60 0))] [] σ (f_X11_keyHere_172 F σ) := by
  unfold f_X11_keyHere_172
  refine zr_aload_n C dX11_keyHere_172 rfl ?_
  refine zr_bipush (v := 7) C dX11_keyHere_173 rfl ?_
  refine zr_ldsw (own := RX11) (tx := "watch") (j := 13) C (by decide +kernel) dX11_keyHere_175 ?_
  refine zk_X11_247 C F (Nat.le_of_ble_eq_true rfl) (Nat.le_trans (by decide) hh) (by simp [Value.category]) dX11_keyHere_178 (fun r178 m178 => ?_)
  exact zr_zretg C dX11_keyHere_181
def f_X11_keyHere (F : Nat) (σ : zMem) : Option (Int32 × zMem) := zb (f_X11_here F σ) fun r1 m1 => if r1.toInt < 102 ∨ 116 < r1.toInt then (f_X11_keyHere_172 F m1) else (if r1 = 102 then (zb (f_X11_here F (zwi m1 60 0 58 (((m1.1 60 0 58) + 1)))) fun r99 m99 => if r99 = 101 then (zb (f_X11_is F m99 1 7) fun r111 m111 => zg (zbo r111) (some (r111, m111))) else (zb (f_X11_here F m99) fun r118 m118 => if r118 = 114 then (zb (f_X11_is F m118 2 8) fun r130 m130 => zg (zbo r130) (some (r130, m130))) else (zb (f_X11_is F m118 5 9) fun r140 m140 => zg (zbo r140) (some (r140, m140))))) else (if r1 = 103 then (f_X11_keyHere_172 F m1) else (if r1 = 104 then (zb (f_X11_is F m1 4 11) fun r158 m158 => zg (zbo r158) (some (r158, m158))) else (if r1 = 105 then (f_X11_keyHere_172 F m1) else (if r1 = 106 then (f_X11_keyHere_172 F m1) else (if r1 = 107 then (f_X11_keyHere_172 F m1) else (if r1 = 108 then (zb (f_X11_is F m1 6 12) fun r168 m168 => zg (zbo r168) (some (r168, m168))) else (if r1 = 109 then (f_X11_keyHere_172 F m1) else (if r1 = 110 then (f_X11_keyHere_172 F m1) else (if r1 = 111 then (f_X11_keyHere_172 F m1) else (if r1 = 112 then (f_X11_keyHere_172 F m1) else (if r1 = 113 then (f_X11_keyHere_172 F m1) else (if r1 = 114 then (zb (f_X11_is F m1 0 6) fun r84 m84 => zg (zbo r84) (some (r84, m84))) else (if r1 = 115 then (f_X11_keyHere_172 F m1) else (if r1 = 116 then (zb (f_X11_is F m1 3 10) fun r149 m149 => zg (zbo r149) (some (r149, m149))) else none)))))))))))))))
set_option maxHeartbeats 4000000 in
set_option maxRecDepth 100000 in
theorem c_X11_keyHere (l : Launch) (Z : zLay) (F : Nat) (σ : zMem) (r : Int32) (σ1 : zMem) (ho : f_X11_keyHere F σ = some (r, σ1)) : zMet l yX11_keyHere cX11_keyHere 1 (some .boolean) 7 Z [.ref (zad Z 60 0)] σ (zQI Z r σ1) := by
  refine zMet_of (Qc := zQI Z) (by decide) (Nat.le_of_ble_eq_true rfl) [(0, .ref (zad Z 60 0))] rfl (fun E C => ?_) ho
  have hh : 7 ≤ 7 := Nat.le_refl _
  show zKO E 1 Z (zMQ E Z (zQI Z)) 0 [(0, .ref (zad Z 60 0))] [] σ _
  unfold f_X11_keyHere
  refine zr_aload_n C dX11_keyHere_0 rfl ?_
  refine zk_X11_227 C F (Nat.le_of_ble_eq_true rfl) (Nat.le_trans (by decide) hh) (by simp [Value.category]) dX11_keyHere_1 (fun r1 m1 => ?_)
  refine zr_if (fun hx => ?_) (fun _ => ?_)
  · refine zr_tabOut (tgt := 172) C dX11_keyHere_4 hx (by decide) ?_
    exact zr_sub [0] rfl (c_X11_keyHere_172 F C hh m1)
  · refine zr_if (fun hx => ?_) (fun _ => ?_)
    · refine zr_tabIn (tgt := 88) C dX11_keyHere_4 (by rw [hx]; decide) (by rw [hx]; decide) (off := 84) (by rw [hx]; decide) (by decide) ?_
      refine zr_aload_n C dX11_keyHere_88 rfl ?_
      refine zr_dup C dX11_keyHere_89 rfl ?_
      refine zf_X11_215 C (Nat.le_of_ble_eq_true rfl) dX11_keyHere_90 ?_
      refine zr_iconst (v := 1) C dX11_keyHere_93 rfl ?_
      refine zr_iadd C dX11_keyHere_94 ?_
      refine zp_X11_215 C (Nat.le_of_ble_eq_true rfl) dX11_keyHere_95 ?_
      refine zr_aload_n C dX11_keyHere_98 rfl ?_
      refine zk_X11_227 C F (Nat.le_of_ble_eq_true rfl) (Nat.le_trans (by decide) hh) (by simp [Value.category]) dX11_keyHere_99 (fun r99 m99 => ?_)
      refine zr_bipush (v := 101) C dX11_keyHere_102 rfl ?_
      refine zr_icmp_ne (tgt := 117) C dX11_keyHere_104 (by decide) ?_ ?_
      · refine zr_aload_n C dX11_keyHere_117 rfl ?_
        refine zk_X11_227 C F (Nat.le_of_ble_eq_true rfl) (Nat.le_trans (by decide) hh) (by simp [Value.category]) dX11_keyHere_118 (fun r118 m118 => ?_)
        refine zr_bipush (v := 114) C dX11_keyHere_121 rfl ?_
        refine zr_icmp_ne (tgt := 136) C dX11_keyHere_123 (by decide) ?_ ?_
        · refine zr_aload_n C dX11_keyHere_136 rfl ?_
          refine zr_iconst (v := 5) C dX11_keyHere_137 rfl ?_
          refine zr_lds (own := RX11) (tx := "ine") (j := 9) C (by decide +kernel) dX11_keyHere_138 ?_
          refine zk_X11_247 C F (Nat.le_of_ble_eq_true rfl) (Nat.le_trans (by decide) hh) (by simp [Value.category]) dX11_keyHere_140 (fun r140 m140 => ?_)
          exact zr_zretg C dX11_keyHere_143
        · refine zr_aload_n C dX11_keyHere_126 rfl ?_
          refine zr_iconst (v := 2) C dX11_keyHere_127 rfl ?_
          refine zr_lds (own := RX11) (tx := "rom") (j := 8) C (by decide +kernel) dX11_keyHere_128 ?_
          refine zk_X11_247 C F (Nat.le_of_ble_eq_true rfl) (Nat.le_trans (by decide) hh) (by simp [Value.category]) dX11_keyHere_130 (fun r130 m130 => ?_)
          refine zr_goto (tgt := 143) C dX11_keyHere_133 (by decide) ?_
          exact zr_zretg C dX11_keyHere_143
      · refine zr_aload_n C dX11_keyHere_107 rfl ?_
        refine zr_iconst (v := 1) C dX11_keyHere_108 rfl ?_
        refine zr_lds (own := RX11) (tx := "eet") (j := 7) C (by decide +kernel) dX11_keyHere_109 ?_
        refine zk_X11_247 C F (Nat.le_of_ble_eq_true rfl) (Nat.le_trans (by decide) hh) (by simp [Value.category]) dX11_keyHere_111 (fun r111 m111 => ?_)
        refine zr_goto (tgt := 143) C dX11_keyHere_114 (by decide) ?_
        exact zr_zretg C dX11_keyHere_143
    · refine zr_if (fun hx => ?_) (fun _ => ?_)
      · refine zr_tabIn (tgt := 172) C dX11_keyHere_4 (by rw [hx]; decide) (by rw [hx]; decide) (off := 168) (by rw [hx]; decide) (by decide) ?_
        exact zr_sub [0] rfl (c_X11_keyHere_172 F C hh m1)
      · refine zr_if (fun hx => ?_) (fun _ => ?_)
        · refine zr_tabIn (tgt := 153) C dX11_keyHere_4 (by rw [hx]; decide) (by rw [hx]; decide) (off := 149) (by rw [hx]; decide) (by decide) ?_
          refine zr_aload_n C dX11_keyHere_153 rfl ?_
          refine zr_iconst (v := 4) C dX11_keyHere_154 rfl ?_
          refine zr_ldsw (own := RX11) (tx := "heads") (j := 11) C (by decide +kernel) dX11_keyHere_155 ?_
          refine zk_X11_247 C F (Nat.le_of_ble_eq_true rfl) (Nat.le_trans (by decide) hh) (by simp [Value.category]) dX11_keyHere_158 (fun r158 m158 => ?_)
          exact zr_zretg C dX11_keyHere_161
        · refine zr_if (fun hx => ?_) (fun _ => ?_)
          · refine zr_tabIn (tgt := 172) C dX11_keyHere_4 (by rw [hx]; decide) (by rw [hx]; decide) (off := 168) (by rw [hx]; decide) (by decide) ?_
            exact zr_sub [0] rfl (c_X11_keyHere_172 F C hh m1)
          · refine zr_if (fun hx => ?_) (fun _ => ?_)
            · refine zr_tabIn (tgt := 172) C dX11_keyHere_4 (by rw [hx]; decide) (by rw [hx]; decide) (off := 168) (by rw [hx]; decide) (by decide) ?_
              exact zr_sub [0] rfl (c_X11_keyHere_172 F C hh m1)
            · refine zr_if (fun hx => ?_) (fun _ => ?_)
              · refine zr_tabIn (tgt := 172) C dX11_keyHere_4 (by rw [hx]; decide) (by rw [hx]; decide) (off := 168) (by rw [hx]; decide) (by decide) ?_
                exact zr_sub [0] rfl (c_X11_keyHere_172 F C hh m1)
              · refine zr_if (fun hx => ?_) (fun _ => ?_)
                · refine zr_tabIn (tgt := 162) C dX11_keyHere_4 (by rw [hx]; decide) (by rw [hx]; decide) (off := 158) (by rw [hx]; decide) (by decide) ?_
                  refine zr_aload_n C dX11_keyHere_162 rfl ?_
                  refine zr_bipush (v := 6) C dX11_keyHere_163 rfl ?_
                  refine zr_ldsw (own := RX11) (tx := "lot") (j := 12) C (by decide +kernel) dX11_keyHere_165 ?_
                  refine zk_X11_247 C F (Nat.le_of_ble_eq_true rfl) (Nat.le_trans (by decide) hh) (by simp [Value.category]) dX11_keyHere_168 (fun r168 m168 => ?_)
                  exact zr_zretg C dX11_keyHere_171
                · refine zr_if (fun hx => ?_) (fun _ => ?_)
                  · refine zr_tabIn (tgt := 172) C dX11_keyHere_4 (by rw [hx]; decide) (by rw [hx]; decide) (off := 168) (by rw [hx]; decide) (by decide) ?_
                    exact zr_sub [0] rfl (c_X11_keyHere_172 F C hh m1)
                  · refine zr_if (fun hx => ?_) (fun _ => ?_)
                    · refine zr_tabIn (tgt := 172) C dX11_keyHere_4 (by rw [hx]; decide) (by rw [hx]; decide) (off := 168) (by rw [hx]; decide) (by decide) ?_
                      exact zr_sub [0] rfl (c_X11_keyHere_172 F C hh m1)
                    · refine zr_if (fun hx => ?_) (fun _ => ?_)
                      · refine zr_tabIn (tgt := 172) C dX11_keyHere_4 (by rw [hx]; decide) (by rw [hx]; decide) (off := 168) (by rw [hx]; decide) (by decide) ?_
                        exact zr_sub [0] rfl (c_X11_keyHere_172 F C hh m1)
                      · refine zr_if (fun hx => ?_) (fun _ => ?_)
                        · refine zr_tabIn (tgt := 172) C dX11_keyHere_4 (by rw [hx]; decide) (by rw [hx]; decide) (off := 168) (by rw [hx]; decide) (by decide) ?_
                          exact zr_sub [0] rfl (c_X11_keyHere_172 F C hh m1)
                        · refine zr_if (fun hx => ?_) (fun _ => ?_)
                          · refine zr_tabIn (tgt := 172) C dX11_keyHere_4 (by rw [hx]; decide) (by rw [hx]; decide) (off := 168) (by rw [hx]; decide) (by decide) ?_
                            exact zr_sub [0] rfl (c_X11_keyHere_172 F C hh m1)
                          · refine zr_if (fun hx => ?_) (fun _ => ?_)
                            · refine zr_tabIn (tgt := 80) C dX11_keyHere_4 (by rw [hx]; decide) (by rw [hx]; decide) (off := 76) (by rw [hx]; decide) (by decide) ?_
                              refine zr_aload_n C dX11_keyHere_80 rfl ?_
                              refine zr_iconst (v := 0) C dX11_keyHere_81 rfl ?_
                              refine zr_lds (own := RX11) (tx := "rate") (j := 6) C (by decide +kernel) dX11_keyHere_82 ?_
                              refine zk_X11_247 C F (Nat.le_of_ble_eq_true rfl) (Nat.le_trans (by decide) hh) (by simp [Value.category]) dX11_keyHere_84 (fun r84 m84 => ?_)
                              exact zr_zretg C dX11_keyHere_87
                            · refine zr_if (fun hx => ?_) (fun _ => ?_)
                              · refine zr_tabIn (tgt := 172) C dX11_keyHere_4 (by rw [hx]; decide) (by rw [hx]; decide) (off := 168) (by rw [hx]; decide) (by decide) ?_
                                exact zr_sub [0] rfl (c_X11_keyHere_172 F C hh m1)
                              · refine zr_if (fun hx => ?_) (fun _ => ?_)
                                · refine zr_tabIn (tgt := 144) C dX11_keyHere_4 (by rw [hx]; decide) (by rw [hx]; decide) (off := 140) (by rw [hx]; decide) (by decide) ?_
                                  refine zr_aload_n C dX11_keyHere_144 rfl ?_
                                  refine zr_iconst (v := 3) C dX11_keyHere_145 rfl ?_
                                  refine zr_ldsw (own := RX11) (tx := "till") (j := 10) C (by decide +kernel) dX11_keyHere_146 ?_
                                  refine zk_X11_247 C F (Nat.le_of_ble_eq_true rfl) (Nat.le_trans (by decide) hh) (by simp [Value.category]) dX11_keyHere_149 (fun r149 m149 => ?_)
                                  exact zr_zretg C dX11_keyHere_152
                                · exact zr_none
theorem zk_X11_292 (C : zCx E cc RX11 nL ret Z h) (F : Nat)  (hk : 0 < zN 60) (hh : 7 + 1 ≤ h) (hst8 : (st.map fun v => v.category).sum ≤ 8) (hd : decode cc pc = .ok (.invokevirtual 292, 3)) {g : Int32 → zMem → Option (α × zMem)} (kk : ∀ (r : Int32) (σ1 : zMem), zKO E nL Z QQ (pc + 3) L (.int r :: st) σ1 (g r σ1)) : zKO E nL Z QQ pc L (.ref (zad Z 60 0) :: st) σ (zb (f_X11_keyHere F σ) g) :=
  zr_callVI (As := []) (ia := 0) C (fun r σ1 ho => c_X11_keyHere (zla E) Z F σ r σ1 ho) wz_1387 hk rfl rfl wz_p89 wz_1389 wz_1390 wz_12 (by decide +kernel) rfl (by decide) hh hd hst8 kk
def f_X11_fieldHere (F : Nat) (σ : zMem) : Option (Int32 × zMem) := zb (f_X11_here F σ) fun r1 m1 => if r1 = 99 then (zb (f_X11_is F m1 0 18) fun r45 m45 => zg (zbo r45) (some (r45, m45))) else (if r1 = 115 then (zb (f_X11_is F m1 5 20) fun r63 m63 => zg (zbo r63) (some (r63, m63))) else (if r1 = 121 then (zb (f_X11_is F m1 4 19) fun r54 m54 => zg (zbo r54) (some (r54, m54))) else (zb (f_X11_text F m1 21) fun r71 m71 => if r71 = 0 then (some (0, m71)) else (zb (f_X11_here F m71) fun r80 m80 => if r80 = 97 then (zb (f_X11_is F m80 1 22) fun r93 m93 => zg (zbo r93) (some (r93, m93))) else (zb (f_X11_text F m80 23) fun r101 m101 => if r101 = 0 then (some (0, m101)) else (zb (f_X11_here F m101) fun r108 m108 => if r108 = 100 then (zb (f_X11_is F m108 2 24) fun r121 m121 => if r121 = 0 then (some (0, m121)) else (some (1, m121))) else (zb (f_X11_is F m108 3 25) fun r135 m135 => if r135 = 0 then (some (0, m135)) else (some (1, m135)))))))))
set_option maxHeartbeats 4000000 in
set_option maxRecDepth 100000 in
theorem c_X11_fieldHere (l : Launch) (Z : zLay) (F : Nat) (σ : zMem) (r : Int32) (σ1 : zMem) (ho : f_X11_fieldHere F σ = some (r, σ1)) : zMet l yX11_fieldHere cX11_fieldHere 1 (some .boolean) 7 Z [.ref (zad Z 60 0)] σ (zQI Z r σ1) := by
  refine zMet_of (Qc := zQI Z) (by decide) (Nat.le_of_ble_eq_true rfl) [(0, .ref (zad Z 60 0))] rfl (fun E C => ?_) ho
  have hh : 7 ≤ 7 := Nat.le_refl _
  show zKO E 1 Z (zMQ E Z (zQI Z)) 0 [(0, .ref (zad Z 60 0))] [] σ _
  unfold f_X11_fieldHere
  refine zr_aload_n C dX11_fieldHere_0 rfl ?_
  refine zk_X11_227 C F (Nat.le_of_ble_eq_true rfl) (Nat.le_trans (by decide) hh) (by simp [Value.category]) dX11_fieldHere_1 (fun r1 m1 => ?_)
  refine zr_if (fun hx => ?_) (fun hx0 => ?_)
  · refine zr_lookup (tgt := 40) C dX11_fieldHere_4 (by decide) (off := 36) (by rw [hx]; decide) (by decide) ?_
    refine zr_aload_n C dX11_fieldHere_40 rfl ?_
    refine zr_iconst (v := 0) C dX11_fieldHere_41 rfl ?_
    refine zr_ldsw (own := RX11) (tx := "cows") (j := 18) C (by decide +kernel) dX11_fieldHere_42 ?_
    refine zk_X11_247 C F (Nat.le_of_ble_eq_true rfl) (Nat.le_trans (by decide) hh) (by simp [Value.category]) dX11_fieldHere_45 (fun r45 m45 => ?_)
    exact zr_zretg C dX11_fieldHere_48
  · refine zr_if (fun hx => ?_) (fun hx1 => ?_)
    · refine zr_lookup (tgt := 58) C dX11_fieldHere_4 (by decide) (off := 54) (by rw [hx]; decide) (by decide) ?_
      refine zr_aload_n C dX11_fieldHere_58 rfl ?_
      refine zr_iconst (v := 5) C dX11_fieldHere_59 rfl ?_
      refine zr_ldsw (own := RX11) (tx := "season") (j := 20) C (by decide +kernel) dX11_fieldHere_60 ?_
      refine zk_X11_247 C F (Nat.le_of_ble_eq_true rfl) (Nat.le_trans (by decide) hh) (by simp [Value.category]) dX11_fieldHere_63 (fun r63 m63 => ?_)
      exact zr_zretg C dX11_fieldHere_66
    · refine zr_if (fun hx => ?_) (fun hx2 => ?_)
      · refine zr_lookup (tgt := 49) C dX11_fieldHere_4 (by decide) (off := 45) (by rw [hx]; decide) (by decide) ?_
        refine zr_aload_n C dX11_fieldHere_49 rfl ?_
        refine zr_iconst (v := 4) C dX11_fieldHere_50 rfl ?_
        refine zr_ldsw (own := RX11) (tx := "year") (j := 19) C (by decide +kernel) dX11_fieldHere_51 ?_
        refine zk_X11_247 C F (Nat.le_of_ble_eq_true rfl) (Nat.le_trans (by decide) hh) (by simp [Value.category]) dX11_fieldHere_54 (fun r54 m54 => ?_)
        exact zr_zretg C dX11_fieldHere_57
      · refine zr_lookup (x := r1) (tgt := 67) C dX11_fieldHere_4 (by decide) (off := 63) (zlk_none (List.forall_mem_cons.mpr ⟨zlk_ne hx0, List.forall_mem_cons.mpr ⟨zlk_ne hx1, List.forall_mem_cons.mpr ⟨zlk_ne hx2, fun _ h9 => absurd h9 List.not_mem_nil⟩⟩⟩)) (by decide) ?_
        refine zr_aload_n C dX11_fieldHere_67 rfl ?_
        refine zr_ldsw (own := RX11) (tx := "h") (j := 21) C (by decide +kernel) dX11_fieldHere_68 ?_
        refine zk_X11_241 C F (Nat.le_of_ble_eq_true rfl) (Nat.le_trans (by decide) hh) (by simp [Value.category]) dX11_fieldHere_71 (fun r71 m71 => ?_)
        refine zr_if_ne (tgt := 79) C dX11_fieldHere_74 (by decide) ?_ ?_
        · refine zr_aload_n C dX11_fieldHere_79 rfl ?_
          refine zk_X11_227 C F (Nat.le_of_ble_eq_true rfl) (Nat.le_trans (by decide) hh) (by simp [Value.category]) dX11_fieldHere_80 (fun r80 m80 => ?_)
          refine zr_bipush (v := 97) C dX11_fieldHere_83 rfl ?_
          refine zr_icmp_ne (tgt := 97) C dX11_fieldHere_85 (by decide) ?_ ?_
          · refine zr_aload_n C dX11_fieldHere_97 rfl ?_
            refine zr_ldsw (own := RX11) (tx := "ea") (j := 23) C (by decide +kernel) dX11_fieldHere_98 ?_
            refine zk_X11_241 C F (Nat.le_of_ble_eq_true rfl) (Nat.le_trans (by decide) hh) (by simp [Value.category]) dX11_fieldHere_101 (fun r101 m101 => ?_)
            refine zr_if_eq (tgt := 145) C dX11_fieldHere_104 (by decide) ?_ ?_
            · refine zr_iconst (v := 0) C dX11_fieldHere_145 rfl ?_
              exact zr_zret C dX11_fieldHere_146 rfl
            · refine zr_aload_n C dX11_fieldHere_107 rfl ?_
              refine zk_X11_227 C F (Nat.le_of_ble_eq_true rfl) (Nat.le_trans (by decide) hh) (by simp [Value.category]) dX11_fieldHere_108 (fun r108 m108 => ?_)
              refine zr_bipush (v := 100) C dX11_fieldHere_111 rfl ?_
              refine zr_icmp_ne (tgt := 130) C dX11_fieldHere_113 (by decide) ?_ ?_
              · refine zr_aload_n C dX11_fieldHere_130 rfl ?_
                refine zr_iconst (v := 3) C dX11_fieldHere_131 rfl ?_
                refine zr_ldsw (own := RX11) (tx := "rths") (j := 25) C (by decide +kernel) dX11_fieldHere_132 ?_
                refine zk_X11_247 C F (Nat.le_of_ble_eq_true rfl) (Nat.le_trans (by decide) hh) (by simp [Value.category]) dX11_fieldHere_135 (fun r135 m135 => ?_)
                refine zr_if_eq (tgt := 145) C dX11_fieldHere_138 (by decide) ?_ ?_
                · refine zr_iconst (v := 0) C dX11_fieldHere_145 rfl ?_
                  exact zr_zret C dX11_fieldHere_146 rfl
                · refine zr_iconst (v := 1) C dX11_fieldHere_141 rfl ?_
                  refine zr_goto (tgt := 146) C dX11_fieldHere_142 (by decide) ?_
                  exact zr_zret C dX11_fieldHere_146 rfl
              · refine zr_aload_n C dX11_fieldHere_116 rfl ?_
                refine zr_iconst (v := 2) C dX11_fieldHere_117 rfl ?_
                refine zr_ldsw (own := RX11) (tx := "ds") (j := 24) C (by decide +kernel) dX11_fieldHere_118 ?_
                refine zk_X11_247 C F (Nat.le_of_ble_eq_true rfl) (Nat.le_trans (by decide) hh) (by simp [Value.category]) dX11_fieldHere_121 (fun r121 m121 => ?_)
                refine zr_if_eq (tgt := 145) C dX11_fieldHere_124 (by decide) ?_ ?_
                · refine zr_iconst (v := 0) C dX11_fieldHere_145 rfl ?_
                  exact zr_zret C dX11_fieldHere_146 rfl
                · refine zr_goto (tgt := 141) C dX11_fieldHere_127 (by decide) ?_
                  refine zr_iconst (v := 1) C dX11_fieldHere_141 rfl ?_
                  refine zr_goto (tgt := 146) C dX11_fieldHere_142 (by decide) ?_
                  exact zr_zret C dX11_fieldHere_146 rfl
          · refine zr_aload_n C dX11_fieldHere_88 rfl ?_
            refine zr_iconst (v := 1) C dX11_fieldHere_89 rfl ?_
            refine zr_ldsw (own := RX11) (tx := "ay") (j := 22) C (by decide +kernel) dX11_fieldHere_90 ?_
            refine zk_X11_247 C F (Nat.le_of_ble_eq_true rfl) (Nat.le_trans (by decide) hh) (by simp [Value.category]) dX11_fieldHere_93 (fun r93 m93 => ?_)
            exact zr_zretg C dX11_fieldHere_96
        · refine zr_iconst (v := 0) C dX11_fieldHere_77 rfl ?_
          exact zr_zret C dX11_fieldHere_78 rfl
theorem zk_X11_283 (C : zCx E cc RX11 nL ret Z h) (F : Nat)  (hk : 0 < zN 60) (hh : 7 + 1 ≤ h) (hst8 : (st.map fun v => v.category).sum ≤ 8) (hd : decode cc pc = .ok (.invokevirtual 283, 3)) {g : Int32 → zMem → Option (α × zMem)} (kk : ∀ (r : Int32) (σ1 : zMem), zKO E nL Z QQ (pc + 3) L (.int r :: st) σ1 (g r σ1)) : zKO E nL Z QQ pc L (.ref (zad Z 60 0) :: st) σ (zb (f_X11_fieldHere F σ) g) :=
  zr_callVI (As := []) (ia := 0) C (fun r σ1 ho => c_X11_fieldHere (zla E) Z F σ r σ1 ho) wz_1429 hk rfl rfl wz_p96 wz_1431 wz_1432 wz_12 (by decide +kernel) rfl (by decide) hh hd hst8 kk
def f_X11_testHere_89 (F : Nat) (σ : zMem) (l1 : Int32) : Option (Int32 × zMem) := zg (inb 3 6) (zb (f_X11_numberHere F (zwi (zwi σ 111 0 3 l1) 60 0 58 ((((zwi σ 111 0 3 l1).1 60 0 58) + 1)))) fun r107 m107 => zg (inb 4 6) (zg (zbo r107) (some (r107, (zwi m107 111 0 4 ((m107.1 60 0 60)))))))
set_option maxHeartbeats 4000000 in
set_option maxRecDepth 100000 in
theorem c_X11_testHere_89 (F : Nat) {E : zEn} {h : Nat} {Z : zLay} (C : zCx E cX11_testHere RX11 3 (some .boolean) Z h) (hh : 8 ≤ h) (σ : zMem) (l1 : Int32) : zKO E 3 Z (zMQ E Z (zQI Z)) 89 [(0, .ref (zad Z 60 0)), (1, .int l1)] [] σ (f_X11_testHere_89 F σ l1) := by
  unfold f_X11_testHere_89
  refine zr_aload_n C dX11_testHere_89 rfl ?_
  refine zf_X11_139 C (Nat.le_of_ble_eq_true rfl) dX11_testHere_90 ?_
  refine zr_iconst (v := 3) C dX11_testHere_93 rfl ?_
  refine zr_iload_n C dX11_testHere_94 rfl ?_
  refine zr_iast (n := 6) C dX11_testHere_95 (Nat.le_of_ble_eq_true rfl) (fun _ _ => rfl) ?_
  refine zr_aload_n C dX11_testHere_96 rfl ?_
  refine zr_dup C dX11_testHere_97 rfl ?_
  refine zf_X11_215 C (Nat.le_of_ble_eq_true rfl) dX11_testHere_98 ?_
  refine zr_iconst (v := 1) C dX11_testHere_101 rfl ?_
  refine zr_iadd C dX11_testHere_102 ?_
  refine zp_X11_215 C (Nat.le_of_ble_eq_true rfl) dX11_testHere_103 ?_
  refine zr_aload_n C dX11_testHere_106 rfl ?_
  refine zk_X11_286 C F (Nat.le_of_ble_eq_true rfl) (Nat.le_trans (by decide) hh) (by simp [Value.category]) dX11_testHere_107 (fun r107 m107 => ?_)
  refine zr_istore_n (i := 2) (L1 := [(2, .int _), (0, .ref _), (1, .int _)]) C dX11_testHere_110 rfl (by decide) rfl ?_
  refine zr_aload_n C dX11_testHere_111 rfl ?_
  refine zf_X11_139 C (Nat.le_of_ble_eq_true rfl) dX11_testHere_112 ?_
  refine zr_iconst (v := 4) C dX11_testHere_115 rfl ?_
  refine zr_aload_n C dX11_testHere_116 rfl ?_
  refine zf_X11_238 C (Nat.le_of_ble_eq_true rfl) dX11_testHere_117 ?_
  refine zr_iast (n := 6) C dX11_testHere_120 (Nat.le_of_ble_eq_true rfl) (fun _ _ => rfl) ?_
  refine zr_iload_n C dX11_testHere_121 rfl ?_
  exact zr_zretg C dX11_testHere_122
def f_X11_testHere_42 (F : Nat) (σ : zMem) : Option (Int32 × zMem) := zb (f_X11_fieldHere F σ) fun r43 m43 => if r43 = 0 then (some (0, m43)) else (zg (inb 1 6) (zb (f_X11_here F (zwi m43 111 0 1 ((m43.1 60 0 60)))) fun r62 m62 => if r62 = 60 then (f_X11_testHere_89 F m62 r62) else (if r62 = 61 then (f_X11_testHere_89 F m62 r62) else (if r62 = 62 then (f_X11_testHere_89 F m62 r62) else (zb (f_X11_wrong F m62) fun r85 m85 => zg (zbo r85) (some (r85, m85)))))))
set_option maxHeartbeats 4000000 in
set_option maxRecDepth 100000 in
theorem c_X11_testHere_42 (F : Nat) {E : zEn} {h : Nat} {Z : zLay} (C : zCx E cX11_testHere RX11 3 (some .boolean) Z h) (hh : 8 ≤ h) (σ : zMem) : zKO E 3 Z (zMQ E Z (zQI Z)) 42 [(0, .ref (zad Z 60 0))] [] σ (f_X11_testHere_42 F σ) := by
  unfold f_X11_testHere_42
  refine zr_aload_n C dX11_testHere_42 rfl ?_
  refine zk_X11_283 C F (Nat.le_of_ble_eq_true rfl) (Nat.le_trans (by decide) hh) (by simp [Value.category]) dX11_testHere_43 (fun r43 m43 => ?_)
  refine zr_if_ne (tgt := 51) C dX11_testHere_46 (by decide) ?_ ?_
  · refine zr_aload_n C dX11_testHere_51 rfl ?_
    refine zf_X11_139 C (Nat.le_of_ble_eq_true rfl) dX11_testHere_52 ?_
    refine zr_iconst (v := 1) C dX11_testHere_55 rfl ?_
    refine zr_aload_n C dX11_testHere_56 rfl ?_
    refine zf_X11_238 C (Nat.le_of_ble_eq_true rfl) dX11_testHere_57 ?_
    refine zr_iast (n := 6) C dX11_testHere_60 (Nat.le_of_ble_eq_true rfl) (fun _ _ => rfl) ?_
    refine zr_aload_n C dX11_testHere_61 rfl ?_
    refine zk_X11_227 C F (Nat.le_of_ble_eq_true rfl) (Nat.le_trans (by decide) hh) (by simp [Value.category]) dX11_testHere_62 (fun r62 m62 => ?_)
    refine zr_istore_n (i := 1) (L1 := [(1, .int _), (0, .ref _)]) C dX11_testHere_65 rfl (by decide) rfl ?_
    refine zr_iload_n C dX11_testHere_66 rfl ?_
    refine zr_bipush (v := 60) C dX11_testHere_67 rfl ?_
    refine zr_icmp_eq (tgt := 89) C dX11_testHere_69 (by decide) ?_ ?_
    · exact zr_sub [1, 0] rfl (c_X11_testHere_89 F C hh m62 r62)
    · refine zr_iload_n C dX11_testHere_72 rfl ?_
      refine zr_bipush (v := 61) C dX11_testHere_73 rfl ?_
      refine zr_icmp_eq (tgt := 89) C dX11_testHere_75 (by decide) ?_ ?_
      · exact zr_sub [1, 0] rfl (c_X11_testHere_89 F C hh m62 r62)
      · refine zr_iload_n C dX11_testHere_78 rfl ?_
        refine zr_bipush (v := 62) C dX11_testHere_79 rfl ?_
        refine zr_icmp_eq (tgt := 89) C dX11_testHere_81 (by decide) ?_ ?_
        · exact zr_sub [1, 0] rfl (c_X11_testHere_89 F C hh m62 r62)
        · refine zr_aload_n C dX11_testHere_84 rfl ?_
          refine zk_X11_234 C F (Nat.le_of_ble_eq_true rfl) (Nat.le_trans (by decide) hh) (by simp [Value.category]) dX11_testHere_85 (fun r85 m85 => ?_)
          exact zr_zretg C dX11_testHere_88
  · refine zr_iconst (v := 0) C dX11_testHere_49 rfl ?_
    exact zr_zret C dX11_testHere_50 rfl
def f_X11_testHere_19 (F : Nat) (σ : zMem) (s0 : Int32) (s1 : Int32) : Option (Int32 × zMem) := zg (inb s1 6) (zg (inb 0 6) (if ((zwi σ 111 0 s1.toNatClampNeg s0).1 111 0 0) = 1 then (zb (f_X11_text F (zwi σ 111 0 s1.toNatClampNeg s0) 17) fun r34 m34 => if r34 = 0 then (some (0, m34)) else (f_X11_testHere_42 F m34)) else (f_X11_testHere_42 F (zwi σ 111 0 s1.toNatClampNeg s0))))
set_option maxHeartbeats 4000000 in
set_option maxRecDepth 100000 in
theorem c_X11_testHere_19 (F : Nat) {E : zEn} {h : Nat} {Z : zLay} (C : zCx E cX11_testHere RX11 3 (some .boolean) Z h) (hh : 8 ≤ h) (σ : zMem) (s0 : Int32) (s1 : Int32) : zKO E 3 Z (zMQ E Z (zQI Z)) 19 [(0, .ref (zad Z 60 0))] [.int s0, .int s1, .ref (zad Z 111 0)] σ (f_X11_testHere_19 F σ s0 s1) := by
  unfold f_X11_testHere_19
  refine zr_iast (n := 6) C dX11_testHere_19 (Nat.le_of_ble_eq_true rfl) (fun _ _ => rfl) ?_
  refine zr_aload_n C dX11_testHere_20 rfl ?_
  refine zf_X11_139 C (Nat.le_of_ble_eq_true rfl) dX11_testHere_21 ?_
  refine zr_iconst (v := 0) C dX11_testHere_24 rfl ?_
  refine zr_iald (n := 6) C dX11_testHere_25 (Nat.le_of_ble_eq_true rfl) rfl ?_
  refine zr_iconst (v := 1) C dX11_testHere_26 rfl ?_
  refine zr_icmp_ne (tgt := 42) C dX11_testHere_27 (by decide) ?_ ?_
  · exact zr_sub [0] rfl (c_X11_testHere_42 F C hh (zwi σ 111 0 s1.toNatClampNeg s0))
  · refine zr_aload_n C dX11_testHere_30 rfl ?_
    refine zr_ldsw (own := RX11) (tx := "not ") (j := 17) C (by decide +kernel) dX11_testHere_31 ?_
    refine zk_X11_241 C F (Nat.le_of_ble_eq_true rfl) (Nat.le_trans (by decide) hh) (by simp [Value.category]) dX11_testHere_34 (fun r34 m34 => ?_)
    refine zr_if_ne (tgt := 42) C dX11_testHere_37 (by decide) ?_ ?_
    · exact zr_sub [0] rfl (c_X11_testHere_42 F C hh m34)
    · refine zr_iconst (v := 0) C dX11_testHere_40 rfl ?_
      exact zr_zret C dX11_testHere_41 rfl
def f_X11_testHere (F : Nat) (σ : zMem) : Option (Int32 × zMem) := zb (f_X11_here F σ) fun r6 m6 => if r6 = 110 then (f_X11_testHere_19 F m6 1 0) else (f_X11_testHere_19 F m6 0 0)
set_option maxHeartbeats 4000000 in
set_option maxRecDepth 100000 in
theorem c_X11_testHere (l : Launch) (Z : zLay) (F : Nat) (σ : zMem) (r : Int32) (σ1 : zMem) (ho : f_X11_testHere F σ = some (r, σ1)) : zMet l yX11_testHere cX11_testHere 3 (some .boolean) 8 Z [.ref (zad Z 60 0)] σ (zQI Z r σ1) := by
  refine zMet_of (Qc := zQI Z) (by decide) (Nat.le_of_ble_eq_true rfl) [(0, .ref (zad Z 60 0))] rfl (fun E C => ?_) ho
  have hh : 8 ≤ 8 := Nat.le_refl _
  show zKO E 3 Z (zMQ E Z (zQI Z)) 0 [(0, .ref (zad Z 60 0))] [] σ _
  unfold f_X11_testHere
  refine zr_aload_n C dX11_testHere_0 rfl ?_
  refine zf_X11_139 C (Nat.le_of_ble_eq_true rfl) dX11_testHere_1 ?_
  refine zr_iconst (v := 0) C dX11_testHere_4 rfl ?_
  refine zr_aload_n C dX11_testHere_5 rfl ?_
  refine zk_X11_227 C F (Nat.le_of_ble_eq_true rfl) (Nat.le_trans (by decide) hh) (by simp [Value.category]) dX11_testHere_6 (fun r6 m6 => ?_)
  refine zr_bipush (v := 110) C dX11_testHere_9 rfl ?_
  refine zr_icmp_ne (tgt := 18) C dX11_testHere_11 (by decide) ?_ ?_
  · refine zr_iconst (v := 0) C dX11_testHere_18 rfl ?_
    exact zr_sub [0] rfl (c_X11_testHere_19 F C hh m6 0 0)
  · refine zr_iconst (v := 1) C dX11_testHere_14 rfl ?_
    refine zr_goto (tgt := 19) C dX11_testHere_15 (by decide) ?_
    exact zr_sub [0] rfl (c_X11_testHere_19 F C hh m6 1 0)
theorem zk_X11_301 (C : zCx E cc RX11 nL ret Z h) (F : Nat)  (hk : 0 < zN 60) (hh : 8 + 1 ≤ h) (hst8 : (st.map fun v => v.category).sum ≤ 8) (hd : decode cc pc = .ok (.invokevirtual 301, 3)) {g : Int32 → zMem → Option (α × zMem)} (kk : ∀ (r : Int32) (σ1 : zMem), zKO E nL Z QQ (pc + 3) L (.int r :: st) σ1 (g r σ1)) : zKO E nL Z QQ pc L (.ref (zad Z 60 0) :: st) σ (zb (f_X11_testHere F σ) g) :=
  zr_callVI (As := []) (ia := 0) C (fun r σ1 ho => c_X11_testHere (zla E) Z F σ r σ1 ho) wz_1424 hk rfl rfl wz_p95 wz_1426 wz_1427 wz_12 (by decide +kernel) rfl (by decide) hh hd hst8 kk
def f_X11_wordHere_209 (F : Nat) (σ : zMem) : Option (Int32 × zMem) := zb (f_X11_wrong F σ) fun r210 m210 => zg (zbo r210) (some (r210, m210))
set_option maxHeartbeats 4000000 in
set_option maxRecDepth 100000 in
theorem c_X11_wordHere_209 (F : Nat) {E : zEn} {h : Nat} {Z : zLay} (C : zCx E cX11_wordHere RX11 2 (some .boolean) Z h) (hh : 9 ≤ h) (σ : zMem) : zKO E 2 Z (zMQ E Z (zQI Z)) 209 [(0, .ref (zad Z 60 0))] [] σ (f_X11_wordHere_209 F σ) := by
  unfold f_X11_wordHere_209
  refine zr_aload_n C dX11_wordHere_209 rfl ?_
  refine zk_X11_234 C F (Nat.le_of_ble_eq_true rfl) (Nat.le_trans (by decide) hh) (by simp [Value.category]) dX11_wordHere_210 (fun r210 m210 => ?_)
  exact zr_zretg C dX11_wordHere_213
def f_X11_wordHere_264 (F : Nat) (rec139 : zMem → Nat → Option (Int32 × zMem)) (σ : zMem) (l1 : Nat) (s0 : Nat) : Option (Int32 × zMem) := zg (decide (l1 < 41)) (zg (decide (s0 < 28)) (zb (f_X11_text F σ s0) fun r264 m264 => if r264 = 0 then (some (0, m264)) else (rec139 m264 l1)))
set_option maxHeartbeats 4000000 in
set_option maxRecDepth 100000 in
theorem c_X11_wordHere_264 (F : Nat) (rec139 : zMem → Nat → Option (Int32 × zMem)) {E : zEn} {h : Nat} {Z : zLay} (C : zCx E cX11_wordHere RX11 2 (some .boolean) Z h) (hh : 9 ≤ h) (hrec139 : ∀ (σ : zMem) (x : Nat), zKO E 2 Z (zMQ E Z (zQI Z)) 139 [(0, .ref (zad Z 60 0)), (1, .ref (zad Z 80 x))] [] σ (rec139 σ x)) (σ : zMem) (l1 : Nat) (s0 : Nat) : zKO E 2 Z (zMQ E Z (zQI Z)) 264 [(0, .ref (zad Z 60 0)), (1, .ref (zad Z 80 l1))] [.ref (zad Z 180 s0), .ref (zad Z 60 0)] σ (f_X11_wordHere_264 F rec139 σ l1 s0) := by
  unfold f_X11_wordHere_264
  refine zr_g (fun hl1 => ?_)
  refine zr_g (fun hs0 => ?_)
  refine zk_X11_241 C F (Nat.le_of_ble_eq_true rfl) (Nat.le_trans (by decide) hh) (by simp [Value.category]) dX11_wordHere_264 (fun r264 m264 => ?_)
  refine zr_if_ne (tgt := 139) C dX11_wordHere_267 (by decide) ?_ ?_
  · exact zr_sub [0, 1] rfl (hrec139 m264 l1)
  · refine zr_iconst (v := 0) C dX11_wordHere_270 rfl ?_
    exact zr_zret C dX11_wordHere_271 rfl
def f_X11_wordHere_243 (F : Nat) (rec139 : zMem → Nat → Option (Int32 × zMem)) (σ : zMem) (l1 : Nat) (s0 : Int32) (s1 : Int32) : Option (Int32 × zMem) := zg (decide (l1 < 41)) (zg (inb s1 6) (zg (inb 5 6) (if ((zwi σ 111 0 s1.toNatClampNeg s0).1 111 0 5) = 1 then (f_X11_wordHere_264 F rec139 (zwi σ 111 0 s1.toNatClampNeg s0) l1 26) else (f_X11_wordHere_264 F rec139 (zwi σ 111 0 s1.toNatClampNeg s0) l1 27))))
set_option maxHeartbeats 4000000 in
set_option maxRecDepth 100000 in
theorem c_X11_wordHere_243 (F : Nat) (rec139 : zMem → Nat → Option (Int32 × zMem)) {E : zEn} {h : Nat} {Z : zLay} (C : zCx E cX11_wordHere RX11 2 (some .boolean) Z h) (hh : 9 ≤ h) (hrec139 : ∀ (σ : zMem) (x : Nat), zKO E 2 Z (zMQ E Z (zQI Z)) 139 [(0, .ref (zad Z 60 0)), (1, .ref (zad Z 80 x))] [] σ (rec139 σ x)) (σ : zMem) (l1 : Nat) (s0 : Int32) (s1 : Int32) : zKO E 2 Z (zMQ E Z (zQI Z)) 243 [(0, .ref (zad Z 60 0)), (1, .ref (zad Z 80 l1))] [.int s0, .int s1, .ref (zad Z 111 0)] σ (f_X11_wordHere_243 F rec139 σ l1 s0 s1) := by
  unfold f_X11_wordHere_243
  refine zr_g (fun hl1 => ?_)
  refine zr_iast (n := 6) C dX11_wordHere_243 (Nat.le_of_ble_eq_true rfl) (fun _ _ => rfl) ?_
  refine zr_aload_n C dX11_wordHere_244 rfl ?_
  refine zr_aload_n C dX11_wordHere_245 rfl ?_
  refine zf_X11_139 C (Nat.le_of_ble_eq_true rfl) dX11_wordHere_246 ?_
  refine zr_iconst (v := 5) C dX11_wordHere_249 rfl ?_
  refine zr_iald (n := 6) C dX11_wordHere_250 (Nat.le_of_ble_eq_true rfl) rfl ?_
  refine zr_iconst (v := 1) C dX11_wordHere_251 rfl ?_
  refine zr_icmp_ne (tgt := 261) C dX11_wordHere_252 (by decide) ?_ ?_
  · refine zr_ldsw (own := RX11) (tx := "and ") (j := 27) C (by decide +kernel) dX11_wordHere_261 ?_
    exact zr_sub [0, 1] rfl (c_X11_wordHere_264 F rec139 C hh hrec139 (zwi σ 111 0 s1.toNatClampNeg s0) l1 27)
  · refine zr_ldsw (own := RX11) (tx := "or ") (j := 26) C (by decide +kernel) dX11_wordHere_255 ?_
    refine zr_goto (tgt := 264) C dX11_wordHere_258 (by decide) ?_
    exact zr_sub [0, 1] rfl (c_X11_wordHere_264 F rec139 C hh hrec139 (zwi σ 111 0 s1.toNatClampNeg s0) l1 26)
def f_X11_wordHere_139 (F : Nat) (rec139 : zMem → Nat → Option (Int32 × zMem)) (σ : zMem) (x : Nat) : Option (Int32 × zMem) := zg (decide (x < 41)) (zb (f_X11_testHere F σ) fun r140 m140 => if r140 = 0 then (some (0, m140)) else (zg (inb ((m140.1 60 0 20)) 41) (zg (inb 3 6) (zg (zck 0 ((6 * (m140.1 80 x 3))) 6 6 24) (zg (inb 3 6) (zg (inb 3 6) (if ((zwi (zcpi m140 111 0 0 82 (((m140.1 60 0 20)).toNatClampNeg) ((6 * (m140.1 80 x 3))) 6) 80 x 3 ((((zcpi m140 111 0 0 82 (((m140.1 60 0 20)).toNatClampNeg) ((6 * (m140.1 80 x 3))) 6).1 80 x 3) + 1))).1 60 0 58) = ((zwi (zcpi m140 111 0 0 82 (((m140.1 60 0 20)).toNatClampNeg) ((6 * (m140.1 80 x 3))) 6) 80 x 3 ((((zcpi m140 111 0 0 82 (((m140.1 60 0 20)).toNatClampNeg) ((6 * (m140.1 80 x 3))) 6).1 80 x 3) + 1))).1 60 0 19) then (some (1, (zwi (zcpi m140 111 0 0 82 (((m140.1 60 0 20)).toNatClampNeg) ((6 * (m140.1 80 x 3))) 6) 80 x 3 ((((zcpi m140 111 0 0 82 (((m140.1 60 0 20)).toNatClampNeg) ((6 * (m140.1 80 x 3))) 6).1 80 x 3) + 1))))) else (zb (f_X11_here F (zwi (zcpi m140 111 0 0 82 (((m140.1 60 0 20)).toNatClampNeg) ((6 * (m140.1 80 x 3))) 6) 80 x 3 ((((zcpi m140 111 0 0 82 (((m140.1 60 0 20)).toNatClampNeg) ((6 * (m140.1 80 x 3))) 6).1 80 x 3) + 1)))) fun r194 m194 => if r194 = 32 then (zg (inb 3 6) (if (m194.1 80 x 3) = 4 then (f_X11_wordHere_209 F m194) else (zb (f_X11_here F (zwi m194 60 0 58 (((m194.1 60 0 58) + 1)))) fun r230 m230 => if r230 = 111 then (f_X11_wordHere_243 F rec139 m230 x 1 5) else (f_X11_wordHere_243 F rec139 m230 x 0 5)))) else (f_X11_wordHere_209 F m194)))))))))
set_option maxHeartbeats 4000000 in
set_option maxRecDepth 100000 in
theorem c_X11_wordHere_139 (F : Nat) {E : zEn} {h : Nat} {Z : zLay} (C : zCx E cX11_wordHere RX11 2 (some .boolean) Z h) (hh : 9 ≤ h) : ∀ (n : Nat) (σ : zMem) (x : Nat), zKO E 2 Z (zMQ E Z (zQI Z)) 139 [(0, .ref (zad Z 60 0)), (1, .ref (zad Z 80 x))] [] σ (zit (f_X11_wordHere_139 F) n σ x) := by
  refine zr_loop (LL := fun (x : Nat) => [(0, .ref (zad Z 60 0)), (1, .ref (zad Z 80 x))]) (ST := fun (x : Nat) => []) (fun rec139 hrec139 σ x => ?_)
  obtain ⟨l1, h9⟩ : ∃ y, y = x := ⟨x, rfl⟩
  subst h9
  show zKO E 2 Z (zMQ E Z (zQI Z)) 139 [(0, .ref (zad Z 60 0)), (1, .ref (zad Z 80 l1))] [] σ (zg (decide (l1 < 41)) (zb (f_X11_testHere F σ) fun r140 m140 => if r140 = 0 then (some (0, m140)) else (zg (inb ((m140.1 60 0 20)) 41) (zg (inb 3 6) (zg (zck 0 ((6 * (m140.1 80 l1 3))) 6 6 24) (zg (inb 3 6) (zg (inb 3 6) (if ((zwi (zcpi m140 111 0 0 82 (((m140.1 60 0 20)).toNatClampNeg) ((6 * (m140.1 80 l1 3))) 6) 80 l1 3 ((((zcpi m140 111 0 0 82 (((m140.1 60 0 20)).toNatClampNeg) ((6 * (m140.1 80 l1 3))) 6).1 80 l1 3) + 1))).1 60 0 58) = ((zwi (zcpi m140 111 0 0 82 (((m140.1 60 0 20)).toNatClampNeg) ((6 * (m140.1 80 l1 3))) 6) 80 l1 3 ((((zcpi m140 111 0 0 82 (((m140.1 60 0 20)).toNatClampNeg) ((6 * (m140.1 80 l1 3))) 6).1 80 l1 3) + 1))).1 60 0 19) then (some (1, (zwi (zcpi m140 111 0 0 82 (((m140.1 60 0 20)).toNatClampNeg) ((6 * (m140.1 80 l1 3))) 6) 80 l1 3 ((((zcpi m140 111 0 0 82 (((m140.1 60 0 20)).toNatClampNeg) ((6 * (m140.1 80 l1 3))) 6).1 80 l1 3) + 1))))) else (zb (f_X11_here F (zwi (zcpi m140 111 0 0 82 (((m140.1 60 0 20)).toNatClampNeg) ((6 * (m140.1 80 l1 3))) 6) 80 l1 3 ((((zcpi m140 111 0 0 82 (((m140.1 60 0 20)).toNatClampNeg) ((6 * (m140.1 80 l1 3))) 6).1 80 l1 3) + 1)))) fun r194 m194 => if r194 = 32 then (zg (inb 3 6) (if (m194.1 80 l1 3) = 4 then (f_X11_wordHere_209 F m194) else (zb (f_X11_here F (zwi m194 60 0 58 (((m194.1 60 0 58) + 1)))) fun r230 m230 => if r230 = 111 then (f_X11_wordHere_243 F rec139 m230 l1 1 5) else (f_X11_wordHere_243 F rec139 m230 l1 0 5)))) else (f_X11_wordHere_209 F m194))))))))))
  refine zr_g (fun hl1 => ?_)
  refine zr_aload_n C dX11_wordHere_139 rfl ?_
  refine zk_X11_301 C F (Nat.le_of_ble_eq_true rfl) (Nat.le_trans (by decide) hh) (by simp [Value.category]) dX11_wordHere_140 (fun r140 m140 => ?_)
  refine zr_if_ne (tgt := 148) C dX11_wordHere_143 (by decide) ?_ ?_
  · refine zr_aload_n C dX11_wordHere_148 rfl ?_
    refine zf_X11_139 C (Nat.le_of_ble_eq_true rfl) dX11_wordHere_149 ?_
    refine zr_iconst (v := 0) C dX11_wordHere_152 rfl ?_
    refine zr_aload_n C dX11_wordHere_153 rfl ?_
    refine zf_X11_63 C (Nat.le_of_ble_eq_true rfl) dX11_wordHere_154 ?_
    refine zr_aload_n C dX11_wordHere_157 rfl ?_
    refine zf_X11_289 C (Nat.le_of_ble_eq_true rfl) dX11_wordHere_158 ?_
    refine zr_aald (n := 41) (k1 := 82) C dX11_wordHere_161 (Nat.le_of_ble_eq_true rfl) rfl rfl rfl (fun hb161 => ?_)
    refine zr_bipush (v := 6) C dX11_wordHere_162 rfl ?_
    refine zr_aload_n C dX11_wordHere_164 rfl ?_
    refine zr_iconst (v := 3) C dX11_wordHere_165 rfl ?_
    refine zr_iald (n := 6) C dX11_wordHere_166 (of_decide_eq_true hl1) rfl ?_
    refine zr_imul C dX11_wordHere_167 ?_
    refine zr_bipush (v := 6) C dX11_wordHere_168 rfl ?_
    refine zr_cpi (n0 := 6) (n1 := 24) C wz_1441 wz_1078 wz_1077 wz_19 (Nat.le_of_ble_eq_true rfl) hb161 (fun _ _ => rfl) (fun _ _ => rfl) (Nat.le_trans (by decide) hh) (by simp [Value.category]) dX11_wordHere_170 ?_
    refine zr_aload_n C dX11_wordHere_173 rfl ?_
    refine zr_iconst (v := 3) C dX11_wordHere_174 rfl ?_
    refine zr_dup2 C dX11_wordHere_175 rfl rfl ?_
    refine zr_iald (n := 6) C dX11_wordHere_176 (of_decide_eq_true hl1) rfl ?_
    refine zr_iconst (v := 1) C dX11_wordHere_177 rfl ?_
    refine zr_iadd C dX11_wordHere_178 ?_
    refine zr_iast (n := 6) C dX11_wordHere_179 (of_decide_eq_true hl1) (fun _ _ => rfl) ?_
    refine zr_aload_n C dX11_wordHere_180 rfl ?_
    refine zf_X11_215 C (Nat.le_of_ble_eq_true rfl) dX11_wordHere_181 ?_
    refine zr_aload_n C dX11_wordHere_184 rfl ?_
    refine zf_X11_212 C (Nat.le_of_ble_eq_true rfl) dX11_wordHere_185 ?_
    refine zr_icmp_ne (tgt := 193) C dX11_wordHere_188 (by decide) ?_ ?_
    · refine zr_aload_n C dX11_wordHere_193 rfl ?_
      refine zk_X11_227 C F (Nat.le_of_ble_eq_true rfl) (Nat.le_trans (by decide) hh) (by simp [Value.category]) dX11_wordHere_194 (fun r194 m194 => ?_)
      refine zr_bipush (v := 32) C dX11_wordHere_197 rfl ?_
      refine zr_icmp_ne (tgt := 209) C dX11_wordHere_199 (by decide) ?_ ?_
      · exact zr_sub [0] rfl (c_X11_wordHere_209 F C hh m194)
      · refine zr_aload_n C dX11_wordHere_202 rfl ?_
        refine zr_iconst (v := 3) C dX11_wordHere_203 rfl ?_
        refine zr_iald (n := 6) C dX11_wordHere_204 (of_decide_eq_true hl1) rfl ?_
        refine zr_iconst (v := 4) C dX11_wordHere_205 rfl ?_
        refine zr_icmp_ne (tgt := 214) C dX11_wordHere_206 (by decide) ?_ ?_
        · refine zr_aload_n C dX11_wordHere_214 rfl ?_
          refine zr_dup C dX11_wordHere_215 rfl ?_
          refine zf_X11_215 C (Nat.le_of_ble_eq_true rfl) dX11_wordHere_216 ?_
          refine zr_iconst (v := 1) C dX11_wordHere_219 rfl ?_
          refine zr_iadd C dX11_wordHere_220 ?_
          refine zp_X11_215 C (Nat.le_of_ble_eq_true rfl) dX11_wordHere_221 ?_
          refine zr_aload_n C dX11_wordHere_224 rfl ?_
          refine zf_X11_139 C (Nat.le_of_ble_eq_true rfl) dX11_wordHere_225 ?_
          refine zr_iconst (v := 5) C dX11_wordHere_228 rfl ?_
          refine zr_aload_n C dX11_wordHere_229 rfl ?_
          refine zk_X11_227 C F (Nat.le_of_ble_eq_true rfl) (Nat.le_trans (by decide) hh) (by simp [Value.category]) dX11_wordHere_230 (fun r230 m230 => ?_)
          refine zr_bipush (v := 111) C dX11_wordHere_233 rfl ?_
          refine zr_icmp_ne (tgt := 242) C dX11_wordHere_235 (by decide) ?_ ?_
          · refine zr_iconst (v := 0) C dX11_wordHere_242 rfl ?_
            exact zr_sub [0, 1] rfl (c_X11_wordHere_243 F rec139 C hh hrec139 m230 l1 0 5)
          · refine zr_iconst (v := 1) C dX11_wordHere_238 rfl ?_
            refine zr_goto (tgt := 243) C dX11_wordHere_239 (by decide) ?_
            exact zr_sub [0, 1] rfl (c_X11_wordHere_243 F rec139 C hh hrec139 m230 l1 1 5)
        · exact zr_sub [0] rfl (c_X11_wordHere_209 F C hh m194)
    · refine zr_iconst (v := 1) C dX11_wordHere_191 rfl ?_
      exact zr_zret C dX11_wordHere_192 rfl
  · refine zr_iconst (v := 0) C dX11_wordHere_146 rfl ?_
    exact zr_zret C dX11_wordHere_147 rfl
def f_X11_wordHere_124 (F : Nat) (σ : zMem) (l1 : Nat) (s0 : Nat) : Option (Int32 × zMem) := zg (decide (l1 < 41)) (zg (decide (s0 < 28)) (zb (f_X11_text F σ s0) fun r124 m124 => if r124 = 0 then (some (0, m124)) else (zg (inb 5 6) (zit (f_X11_wordHere_139 F) F (zwi m124 111 0 5 0) l1))))
set_option maxHeartbeats 4000000 in
set_option maxRecDepth 100000 in
theorem c_X11_wordHere_124 (F : Nat) {E : zEn} {h : Nat} {Z : zLay} (C : zCx E cX11_wordHere RX11 2 (some .boolean) Z h) (hh : 9 ≤ h) (σ : zMem) (l1 : Nat) (s0 : Nat) : zKO E 2 Z (zMQ E Z (zQI Z)) 124 [(0, .ref (zad Z 60 0)), (1, .ref (zad Z 80 l1))] [.ref (zad Z 180 s0), .ref (zad Z 60 0)] σ (f_X11_wordHere_124 F σ l1 s0) := by
  unfold f_X11_wordHere_124
  refine zr_g (fun hl1 => ?_)
  refine zr_g (fun hs0 => ?_)
  refine zk_X11_241 C F (Nat.le_of_ble_eq_true rfl) (Nat.le_trans (by decide) hh) (by simp [Value.category]) dX11_wordHere_124 (fun r124 m124 => ?_)
  refine zr_if_ne (tgt := 132) C dX11_wordHere_127 (by decide) ?_ ?_
  · refine zr_aload_n C dX11_wordHere_132 rfl ?_
    refine zf_X11_139 C (Nat.le_of_ble_eq_true rfl) dX11_wordHere_133 ?_
    refine zr_iconst (v := 5) C dX11_wordHere_136 rfl ?_
    refine zr_iconst (v := 0) C dX11_wordHere_137 rfl ?_
    refine zr_iast (n := 6) C dX11_wordHere_138 (Nat.le_of_ble_eq_true rfl) (fun _ _ => rfl) ?_
    exact zr_sub [0, 1] rfl (c_X11_wordHere_139 F C hh F (zwi m124 111 0 5 0) l1)
  · refine zr_iconst (v := 0) C dX11_wordHere_130 rfl ?_
    exact zr_zret C dX11_wordHere_131 rfl
def f_X11_wordHere_106 (F : Nat) (σ : zMem) (l1 : Nat) (s0 : Int32) (s1 : Int32) (s2 : Nat) : Option (Int32 × zMem) := zg (decide (l1 < 41)) (zg (decide (s2 < 41)) (zg (inb s1 6) (zg (inb 2 6) (if ((zwi σ 80 s2 s1.toNatClampNeg s0).1 80 l1 2) = 2 then (f_X11_wordHere_124 F (zwi σ 80 s2 s1.toNatClampNeg s0) l1 15) else (f_X11_wordHere_124 F (zwi σ 80 s2 s1.toNatClampNeg s0) l1 16)))))
set_option maxHeartbeats 4000000 in
set_option maxRecDepth 100000 in
theorem c_X11_wordHere_106 (F : Nat) {E : zEn} {h : Nat} {Z : zLay} (C : zCx E cX11_wordHere RX11 2 (some .boolean) Z h) (hh : 9 ≤ h) (σ : zMem) (l1 : Nat) (s0 : Int32) (s1 : Int32) (s2 : Nat) : zKO E 2 Z (zMQ E Z (zQI Z)) 106 [(0, .ref (zad Z 60 0)), (1, .ref (zad Z 80 l1))] [.int s0, .int s1, .ref (zad Z 80 s2)] σ (f_X11_wordHere_106 F σ l1 s0 s1 s2) := by
  unfold f_X11_wordHere_106
  refine zr_g (fun hl1 => ?_)
  refine zr_g (fun hs2 => ?_)
  refine zr_iast (n := 6) C dX11_wordHere_106 (of_decide_eq_true hs2) (fun _ _ => rfl) ?_
  refine zr_aload_n C dX11_wordHere_107 rfl ?_
  refine zr_aload_n C dX11_wordHere_108 rfl ?_
  refine zr_iconst (v := 2) C dX11_wordHere_109 rfl ?_
  refine zr_iald (n := 6) C dX11_wordHere_110 (of_decide_eq_true hl1) rfl ?_
  refine zr_iconst (v := 2) C dX11_wordHere_111 rfl ?_
  refine zr_icmp_ne (tgt := 121) C dX11_wordHere_112 (by decide) ?_ ?_
  · refine zr_ldsw (own := RX11) (tx := "if ") (j := 16) C (by decide +kernel) dX11_wordHere_121 ?_
    exact zr_sub [0, 1] rfl (c_X11_wordHere_124 F C hh (zwi σ 80 s2 s1.toNatClampNeg s0) l1 16)
  · refine zr_ldsw (own := RX11) (tx := "unless ") (j := 15) C (by decide +kernel) dX11_wordHere_115 ?_
    refine zr_goto (tgt := 124) C dX11_wordHere_118 (by decide) ?_
    exact zr_sub [0, 1] rfl (c_X11_wordHere_124 F C hh (zwi σ 80 s2 s1.toNatClampNeg s0) l1 15)
def f_X11_wordHere (F : Nat) (σ : zMem) : Option (Int32 × zMem) := zg (inb ((σ.1 60 0 20)) 41) (zg (inb 2 6) (zg (inb 3 6) (zb (f_X11_keyHere F (zwi (zwi (zwi σ 60 0 58 0) 80 (((σ.1 60 0 20)).toNatClampNeg) 2 0) 80 (((σ.1 60 0 20)).toNatClampNeg) 3 0)) fun r24 m24 => if r24 = 0 then (some (0, m24)) else (zg (inb 0 6) (zb (f_X11_text F (zwi m24 80 (((σ.1 60 0 20)).toNatClampNeg) 0 ((m24.1 60 0 60))) 14) fun r43 m43 => if r43 = 0 then (some (0, m43)) else (zb (f_X11_numberHere F m43) fun r50 m50 => if r50 = 0 then (some (0, m50)) else (zg (inb 1 6) (if ((zwi m50 80 (((σ.1 60 0 20)).toNatClampNeg) 1 ((m50.1 60 0 60))).1 60 0 58) = ((zwi m50 80 (((σ.1 60 0 20)).toNatClampNeg) 1 ((m50.1 60 0 60))).1 60 0 19) then (some (1, (zwi m50 80 (((σ.1 60 0 20)).toNatClampNeg) 1 ((m50.1 60 0 60))))) else (zb (f_X11_text F (zwi m50 80 (((σ.1 60 0 20)).toNatClampNeg) 1 ((m50.1 60 0 60))) 14) fun r82 m82 => if r82 = 0 then (some (0, m82)) else (zb (f_X11_here F m82) fun r93 m93 => if r93 = 117 then (f_X11_wordHere_106 F m93 (((σ.1 60 0 20)).toNatClampNeg) 2 2 (((σ.1 60 0 20)).toNatClampNeg)) else (f_X11_wordHere_106 F m93 (((σ.1 60 0 20)).toNatClampNeg) 1 2 (((σ.1 60 0 20)).toNatClampNeg))))))))))))
set_option maxHeartbeats 4000000 in
set_option maxRecDepth 100000 in
theorem c_X11_wordHere (l : Launch) (Z : zLay) (F : Nat) (σ : zMem) (r : Int32) (σ1 : zMem) (ho : f_X11_wordHere F σ = some (r, σ1)) : zMet l yX11_wordHere cX11_wordHere 2 (some .boolean) 9 Z [.ref (zad Z 60 0)] σ (zQI Z r σ1) := by
  refine zMet_of (Qc := zQI Z) (by decide) (Nat.le_of_ble_eq_true rfl) [(0, .ref (zad Z 60 0))] rfl (fun E C => ?_) ho
  have hh : 9 ≤ 9 := Nat.le_refl _
  show zKO E 2 Z (zMQ E Z (zQI Z)) 0 [(0, .ref (zad Z 60 0))] [] σ _
  unfold f_X11_wordHere
  refine zr_aload_n C dX11_wordHere_0 rfl ?_
  refine zf_X11_60 C (Nat.le_of_ble_eq_true rfl) dX11_wordHere_1 ?_
  refine zr_aload_n C dX11_wordHere_4 rfl ?_
  refine zf_X11_289 C (Nat.le_of_ble_eq_true rfl) dX11_wordHere_5 ?_
  refine zr_aald (n := 41) (k1 := 80) C dX11_wordHere_8 (Nat.le_of_ble_eq_true rfl) rfl rfl rfl (fun hb8 => ?_)
  refine zr_astore_n (i := 1) (L1 := [(1, .ref _), (0, .ref _)]) C dX11_wordHere_9 rfl (by decide) rfl ?_
  refine zr_aload_n C dX11_wordHere_10 rfl ?_
  refine zr_iconst (v := 0) C dX11_wordHere_11 rfl ?_
  refine zp_X11_215 C (Nat.le_of_ble_eq_true rfl) dX11_wordHere_12 ?_
  refine zr_aload_n C dX11_wordHere_15 rfl ?_
  refine zr_iconst (v := 2) C dX11_wordHere_16 rfl ?_
  refine zr_iconst (v := 0) C dX11_wordHere_17 rfl ?_
  refine zr_iast (n := 6) C dX11_wordHere_18 hb8 (fun _ _ => rfl) ?_
  refine zr_aload_n C dX11_wordHere_19 rfl ?_
  refine zr_iconst (v := 3) C dX11_wordHere_20 rfl ?_
  refine zr_iconst (v := 0) C dX11_wordHere_21 rfl ?_
  refine zr_iast (n := 6) C dX11_wordHere_22 hb8 (fun _ _ => rfl) ?_
  refine zr_aload_n C dX11_wordHere_23 rfl ?_
  refine zk_X11_292 C F (Nat.le_of_ble_eq_true rfl) (Nat.le_trans (by decide) hh) (by simp [Value.category]) dX11_wordHere_24 (fun r24 m24 => ?_)
  refine zr_if_ne (tgt := 32) C dX11_wordHere_27 (by decide) ?_ ?_
  · refine zr_aload_n C dX11_wordHere_32 rfl ?_
    refine zr_iconst (v := 0) C dX11_wordHere_33 rfl ?_
    refine zr_aload_n C dX11_wordHere_34 rfl ?_
    refine zf_X11_238 C (Nat.le_of_ble_eq_true rfl) dX11_wordHere_35 ?_
    refine zr_iast (n := 6) C dX11_wordHere_38 hb8 (fun _ _ => rfl) ?_
    refine zr_aload_n C dX11_wordHere_39 rfl ?_
    refine zr_ldsw (own := RX11) (tx := " ") (j := 14) C (by decide +kernel) dX11_wordHere_40 ?_
    refine zk_X11_241 C F (Nat.le_of_ble_eq_true rfl) (Nat.le_trans (by decide) hh) (by simp [Value.category]) dX11_wordHere_43 (fun r43 m43 => ?_)
    refine zr_if_eq (tgt := 56) C dX11_wordHere_46 (by decide) ?_ ?_
    · refine zr_iconst (v := 0) C dX11_wordHere_56 rfl ?_
      exact zr_zret C dX11_wordHere_57 rfl
    · refine zr_aload_n C dX11_wordHere_49 rfl ?_
      refine zk_X11_286 C F (Nat.le_of_ble_eq_true rfl) (Nat.le_trans (by decide) hh) (by simp [Value.category]) dX11_wordHere_50 (fun r50 m50 => ?_)
      refine zr_if_ne (tgt := 58) C dX11_wordHere_53 (by decide) ?_ ?_
      · refine zr_aload_n C dX11_wordHere_58 rfl ?_
        refine zr_iconst (v := 1) C dX11_wordHere_59 rfl ?_
        refine zr_aload_n C dX11_wordHere_60 rfl ?_
        refine zf_X11_238 C (Nat.le_of_ble_eq_true rfl) dX11_wordHere_61 ?_
        refine zr_iast (n := 6) C dX11_wordHere_64 hb8 (fun _ _ => rfl) ?_
        refine zr_aload_n C dX11_wordHere_65 rfl ?_
        refine zf_X11_215 C (Nat.le_of_ble_eq_true rfl) dX11_wordHere_66 ?_
        refine zr_aload_n C dX11_wordHere_69 rfl ?_
        refine zf_X11_212 C (Nat.le_of_ble_eq_true rfl) dX11_wordHere_70 ?_
        refine zr_icmp_ne (tgt := 78) C dX11_wordHere_73 (by decide) ?_ ?_
        · refine zr_aload_n C dX11_wordHere_78 rfl ?_
          refine zr_ldsw (own := RX11) (tx := " ") (j := 14) C (by decide +kernel) dX11_wordHere_79 ?_
          refine zk_X11_241 C F (Nat.le_of_ble_eq_true rfl) (Nat.le_trans (by decide) hh) (by simp [Value.category]) dX11_wordHere_82 (fun r82 m82 => ?_)
          refine zr_if_ne (tgt := 90) C dX11_wordHere_85 (by decide) ?_ ?_
          · refine zr_aload_n C dX11_wordHere_90 rfl ?_
            refine zr_iconst (v := 2) C dX11_wordHere_91 rfl ?_
            refine zr_aload_n C dX11_wordHere_92 rfl ?_
            refine zk_X11_227 C F (Nat.le_of_ble_eq_true rfl) (Nat.le_trans (by decide) hh) (by simp [Value.category]) dX11_wordHere_93 (fun r93 m93 => ?_)
            refine zr_bipush (v := 117) C dX11_wordHere_96 rfl ?_
            refine zr_icmp_ne (tgt := 105) C dX11_wordHere_98 (by decide) ?_ ?_
            · refine zr_iconst (v := 1) C dX11_wordHere_105 rfl ?_
              exact zr_sub [1, 0] rfl (c_X11_wordHere_106 F C hh m93 (((σ.1 60 0 20)).toNatClampNeg) 1 2 (((σ.1 60 0 20)).toNatClampNeg))
            · refine zr_iconst (v := 2) C dX11_wordHere_101 rfl ?_
              refine zr_goto (tgt := 106) C dX11_wordHere_102 (by decide) ?_
              exact zr_sub [1, 0] rfl (c_X11_wordHere_106 F C hh m93 (((σ.1 60 0 20)).toNatClampNeg) 2 2 (((σ.1 60 0 20)).toNatClampNeg))
          · refine zr_iconst (v := 0) C dX11_wordHere_88 rfl ?_
            exact zr_zret C dX11_wordHere_89 rfl
        · refine zr_iconst (v := 1) C dX11_wordHere_76 rfl ?_
          exact zr_zret C dX11_wordHere_77 rfl
      · refine zr_iconst (v := 0) C dX11_wordHere_56 rfl ?_
        exact zr_zret C dX11_wordHere_57 rfl
  · refine zr_iconst (v := 0) C dX11_wordHere_30 rfl ?_
    exact zr_zret C dX11_wordHere_31 rfl
theorem zk_X11_314 (C : zCx E cc RX11 nL ret Z h) (F : Nat)  (hk : 0 < zN 60) (hh : 9 + 1 ≤ h) (hst8 : (st.map fun v => v.category).sum ≤ 8) (hd : decode cc pc = .ok (.invokevirtual 314, 3)) {g : Int32 → zMem → Option (α × zMem)} (kk : ∀ (r : Int32) (σ1 : zMem), zKO E nL Z QQ (pc + 3) L (.int r :: st) σ1 (g r σ1)) : zKO E nL Z QQ pc L (.ref (zad Z 60 0) :: st) σ (zb (f_X11_wordHere F σ) g) :=
  zr_callVI (As := []) (ia := 0) C (fun r σ1 ho => c_X11_wordHere (zla E) Z F σ r σ1 ho) wz_1383 hk rfl rfl wz_p88 wz_1385 wz_1386 wz_12 (by decide +kernel) rfl (by decide) hh hd hst8 kk
def f_X11_vote (F : Nat) (σ : zMem) (a1 : Int32) (a2 : Int32) : Option (Int32 × zMem) := if ((a1 ||| a2) &&& (((1 <<< ((σ.1 60 0 1) &&& 31)) - 1) ^^^ (-1))) = 0 then (if (σ.1 60 0 20) = 40 then (some ((-4), σ)) else (zb (f_X11_wordHere F σ) fun r33 m33 => if r33 = 0 then (some (((-10) - ((zwi m33 60 0 19 0).1 60 0 59)), (zwi m33 60 0 19 0))) else (zb (f_J6_bitCount_0f7a4 F (zwi m33 60 0 19 0) ((a1 ||| a2))) fun r57 m57 => if (a1 &&& a2) = 0 then (zb (f_J6_bitCount_0f7a4 F m57 a1) fun r69 m69 => zb (f_J6_bitCount_0f7a4 F m69 a2) fun r73 m73 => if r69 ≤ r73 then (some ((-3), m73)) else (if (m73.1 60 0 1) ≤ (2 * r57) then (zg (inb ((m73.1 60 0 20)) 41) (zg (inb 4 6) (zg (inb (((zwi m73 80 (((m73.1 60 0 20)).toNatClampNeg) 4 ((m73.1 60 0 0))).1 60 0 20)) 41) (zg (inb 5 6) (some (((zwi (zwi m73 80 (((m73.1 60 0 20)).toNatClampNeg) 4 ((m73.1 60 0 0))) 80 ((((zwi m73 80 (((m73.1 60 0 20)).toNatClampNeg) 4 ((m73.1 60 0 0))).1 60 0 20)).toNatClampNeg) 5 ((-1))).1 60 0 20), (zwi (zwi (zwi m73 80 (((m73.1 60 0 20)).toNatClampNeg) 4 ((m73.1 60 0 0))) 80 ((((zwi m73 80 (((m73.1 60 0 20)).toNatClampNeg) 4 ((m73.1 60 0 0))).1 60 0 20)).toNatClampNeg) 5 ((-1))) 60 0 20 ((((zwi (zwi m73 80 (((m73.1 60 0 20)).toNatClampNeg) 4 ((m73.1 60 0 0))) 80 ((((zwi m73 80 (((m73.1 60 0 20)).toNatClampNeg) 4 ((m73.1 60 0 0))).1 60 0 20)).toNatClampNeg) 5 ((-1))).1 60 0 20) + 1))))))))) else (some ((-3), m73)))) else (some ((-3), m57))))) else (some ((-2), σ))
set_option maxHeartbeats 4000000 in
set_option maxRecDepth 100000 in
theorem c_X11_vote (l : Launch) (Z : zLay) (F : Nat) (σ : zMem) (a1 : Int32) (a2 : Int32) (r : Int32) (σ1 : zMem) (ho : f_X11_vote F σ a1 a2 = some (r, σ1)) : zMet l yX11_vote cX11_vote 5 (some .int) 10 Z [.ref (zad Z 60 0), .int (a1), .int (a2)] σ (zQI Z r σ1) := by
  refine zMet_of (Qc := zQI Z) (by decide) (Nat.le_of_ble_eq_true rfl) [(0, .ref (zad Z 60 0)), (1, .int (a1)), (2, .int (a2))] rfl (fun E C => ?_) ho
  have hh : 10 ≤ 10 := Nat.le_refl _
  show zKO E 5 Z (zMQ E Z (zQI Z)) 0 [(0, .ref (zad Z 60 0)), (1, .int (a1)), (2, .int (a2))] [] σ _
  unfold f_X11_vote
  refine zr_iload_n C dX11_vote_0 rfl ?_
  refine zr_iload_n C dX11_vote_1 rfl ?_
  refine zr_ior C dX11_vote_2 ?_
  refine zr_iconst (v := 1) C dX11_vote_3 rfl ?_
  refine zr_aload_n C dX11_vote_4 rfl ?_
  refine zf_X11_160 C (Nat.le_of_ble_eq_true rfl) dX11_vote_5 ?_
  refine zr_ishl C dX11_vote_8 ?_
  refine zr_iconst (v := 1) C dX11_vote_9 rfl ?_
  refine zr_isub C dX11_vote_10 ?_
  refine zr_iconst (v := -1) C dX11_vote_11 rfl ?_
  refine zr_ixor C dX11_vote_12 ?_
  refine zr_iand C dX11_vote_13 ?_
  refine zr_if_eq (tgt := 20) C dX11_vote_14 (by decide) ?_ ?_
  · refine zr_aload_n C dX11_vote_20 rfl ?_
    refine zf_X11_289 C (Nat.le_of_ble_eq_true rfl) dX11_vote_21 ?_
    refine zr_bipush (v := 40) C dX11_vote_24 rfl ?_
    refine zr_icmp_ne (tgt := 32) C dX11_vote_26 (by decide) ?_ ?_
    · refine zr_aload_n C dX11_vote_32 rfl ?_
      refine zk_X11_314 C F (Nat.le_of_ble_eq_true rfl) (Nat.le_trans (by decide) hh) (by simp [Value.category]) dX11_vote_33 (fun r33 m33 => ?_)
      refine zr_istore_n (i := 3) (L1 := [(3, .int _), (0, .ref _), (1, .int _), (2, .int _)]) C dX11_vote_36 rfl (by decide) rfl ?_
      refine zr_aload_n C dX11_vote_37 rfl ?_
      refine zr_iconst (v := 0) C dX11_vote_38 rfl ?_
      refine zp_X11_212 C (Nat.le_of_ble_eq_true rfl) dX11_vote_39 ?_
      refine zr_iload_n C dX11_vote_42 rfl ?_
      refine zr_if_ne (tgt := 54) C dX11_vote_43 (by decide) ?_ ?_
      · refine zr_iload_n C dX11_vote_54 rfl ?_
        refine zr_iload_n C dX11_vote_55 rfl ?_
        refine zr_ior C dX11_vote_56 ?_
        refine zk_X11_317 C F (Nat.le_trans (by decide) hh) (by simp [Value.category]) dX11_vote_57 (fun r57 m57 => ?_)
        refine zr_istore (i := 4) (L1 := [(4, .int _), (3, .int _), (0, .ref _), (1, .int _), (2, .int _)]) C dX11_vote_60 (by decide) rfl ?_
        refine zr_iload_n C dX11_vote_62 rfl ?_
        refine zr_iload_n C dX11_vote_63 rfl ?_
        refine zr_iand C dX11_vote_64 ?_
        refine zr_if_ne (tgt := 90) C dX11_vote_65 (by decide) ?_ ?_
        · refine zr_bipush (v := -3) C dX11_vote_90 rfl ?_
          exact zr_iret C dX11_vote_92
        · refine zr_iload_n C dX11_vote_68 rfl ?_
          refine zk_X11_317 C F (Nat.le_trans (by decide) hh) (by simp [Value.category]) dX11_vote_69 (fun r69 m69 => ?_)
          refine zr_iload_n C dX11_vote_72 rfl ?_
          refine zk_X11_317 C F (Nat.le_trans (by decide) hh) (by simp [Value.category]) dX11_vote_73 (fun r73 m73 => ?_)
          refine zr_icmp_le (tgt := 90) C dX11_vote_76 (by decide) ?_ ?_
          · refine zr_bipush (v := -3) C dX11_vote_90 rfl ?_
            exact zr_iret C dX11_vote_92
          · refine zr_iconst (v := 2) C dX11_vote_79 rfl ?_
            refine zr_iload C dX11_vote_80 rfl ?_
            refine zr_imul C dX11_vote_82 ?_
            refine zr_aload_n C dX11_vote_83 rfl ?_
            refine zf_X11_160 C (Nat.le_of_ble_eq_true rfl) dX11_vote_84 ?_
            refine zr_icmp_ge (tgt := 93) C dX11_vote_87 (by decide) ?_ ?_
            · refine zr_aload_n C dX11_vote_93 rfl ?_
              refine zf_X11_60 C (Nat.le_of_ble_eq_true rfl) dX11_vote_94 ?_
              refine zr_aload_n C dX11_vote_97 rfl ?_
              refine zf_X11_289 C (Nat.le_of_ble_eq_true rfl) dX11_vote_98 ?_
              refine zr_aald (n := 41) (k1 := 80) C dX11_vote_101 (Nat.le_of_ble_eq_true rfl) rfl rfl rfl (fun hb101 => ?_)
              refine zr_iconst (v := 4) C dX11_vote_102 rfl ?_
              refine zr_aload_n C dX11_vote_103 rfl ?_
              refine zf_X11_193 C (Nat.le_of_ble_eq_true rfl) dX11_vote_104 ?_
              refine zr_iast (n := 6) C dX11_vote_107 hb101 (fun _ _ => rfl) ?_
              refine zr_aload_n C dX11_vote_108 rfl ?_
              refine zf_X11_60 C (Nat.le_of_ble_eq_true rfl) dX11_vote_109 ?_
              refine zr_aload_n C dX11_vote_112 rfl ?_
              refine zf_X11_289 C (Nat.le_of_ble_eq_true rfl) dX11_vote_113 ?_
              refine zr_aald (n := 41) (k1 := 80) C dX11_vote_116 (Nat.le_of_ble_eq_true rfl) rfl rfl rfl (fun hb116 => ?_)
              refine zr_iconst (v := 5) C dX11_vote_117 rfl ?_
              refine zr_iconst (v := -1) C dX11_vote_118 rfl ?_
              refine zr_iast (n := 6) C dX11_vote_119 hb116 (fun _ _ => rfl) ?_
              refine zr_aload_n C dX11_vote_120 rfl ?_
              refine zr_dup C dX11_vote_121 rfl ?_
              refine zf_X11_289 C (Nat.le_of_ble_eq_true rfl) dX11_vote_122 ?_
              refine zr_dup_x1 C dX11_vote_125 rfl rfl ?_
              refine zr_iconst (v := 1) C dX11_vote_126 rfl ?_
              refine zr_iadd C dX11_vote_127 ?_
              refine zp_X11_289 C (Nat.le_of_ble_eq_true rfl) dX11_vote_128 ?_
              exact zr_iret C dX11_vote_131
            · refine zr_bipush (v := -3) C dX11_vote_90 rfl ?_
              exact zr_iret C dX11_vote_92
      · refine zr_bipush (v := -10) C dX11_vote_46 rfl ?_
        refine zr_aload_n C dX11_vote_48 rfl ?_
        refine zf_X11_218 C (Nat.le_of_ble_eq_true rfl) dX11_vote_49 ?_
        refine zr_isub C dX11_vote_52 ?_
        exact zr_iret C dX11_vote_53
    · refine zr_bipush (v := -4) C dX11_vote_29 rfl ?_
      exact zr_iret C dX11_vote_31
  · refine zr_bipush (v := -2) C dX11_vote_17 rfl ?_
    exact zr_iret C dX11_vote_19
def f_X11_fieldOf (F : Nat) (σ : zMem) (a1 : Int32) (a2 : Int32) (a3 : Int32) : Option (Int32 × zMem) := if a1.toInt < 0 ∨ 4 < a1.toInt then (zg (zni 360) (some ((zrem a3 360), σ))) else (if a1 = 0 then (zg (inb a2 10) (zg (inb 2 5) (some ((σ.1 62 a2.toNatClampNeg 2), σ)))) else (if a1 = 1 then (zg (inb a2 10) (zg (inb 3 5) (some ((σ.1 62 a2.toNatClampNeg 3), σ)))) else (if a1 = 2 then (zg (inb a2 10) (zg (inb 1 5) (some ((σ.1 62 a2.toNatClampNeg 1), σ)))) else (if a1 = 3 then (zg (inb a2 10) (zg (inb 0 5) (some ((σ.1 62 a2.toNatClampNeg 0), σ)))) else (if a1 = 4 then (zg (zni 360) (some ((a3 / 360), σ))) else none)))))
set_option maxHeartbeats 4000000 in
set_option maxRecDepth 100000 in
theorem c_X11_fieldOf (l : Launch) (Z : zLay) (F : Nat) (σ : zMem) (a1 : Int32) (a2 : Int32) (a3 : Int32) (r : Int32) (σ1 : zMem) (ho : f_X11_fieldOf F σ a1 a2 a3 = some (r, σ1)) : zMet l yX11_fieldOf cX11_fieldOf 4 (some .int) 1 Z [.ref (zad Z 60 0), .int (a1), .int (a2), .int (a3)] σ (zQI Z r σ1) := by
  refine zMet_of (Qc := zQI Z) (by decide) (Nat.le_of_ble_eq_true rfl) [(0, .ref (zad Z 60 0)), (1, .int (a1)), (2, .int (a2)), (3, .int (a3))] rfl (fun E C => ?_) ho
  have hh : 1 ≤ 1 := Nat.le_refl _
  show zKO E 4 Z (zMQ E Z (zQI Z)) 0 [(0, .ref (zad Z 60 0)), (1, .int (a1)), (2, .int (a2)), (3, .int (a3))] [] σ _
  unfold f_X11_fieldOf
  refine zr_iload_n C dX11_fieldOf_0 rfl ?_
  refine zr_if (fun hx => ?_) (fun _ => ?_)
  · refine zr_tabOut (tgt := 78) C dX11_fieldOf_1 hx (by decide) ?_
    refine zr_iload_n C dX11_fieldOf_78 rfl ?_
    refine zr_sipush (v := 360) C dX11_fieldOf_79 rfl ?_
    refine zr_irem C dX11_fieldOf_82 ?_
    exact zr_iret C dX11_fieldOf_83
  · refine zr_if (fun hx => ?_) (fun _ => ?_)
    · refine zr_tabIn (tgt := 36) C dX11_fieldOf_1 (by rw [hx]; decide) (by rw [hx]; decide) (off := 35) (by rw [hx]; decide) (by decide) ?_
      refine zr_aload_n C dX11_fieldOf_36 rfl ?_
      refine zf_X11_9 C (Nat.le_of_ble_eq_true rfl) dX11_fieldOf_37 ?_
      refine zr_iload_n C dX11_fieldOf_40 rfl ?_
      refine zr_aald (n := 10) (k1 := 62) C dX11_fieldOf_41 (Nat.le_of_ble_eq_true rfl) rfl rfl rfl (fun hb41 => ?_)
      refine zr_iconst (v := 2) C dX11_fieldOf_42 rfl ?_
      refine zr_iald (n := 5) C dX11_fieldOf_43 hb41 rfl ?_
      exact zr_iret C dX11_fieldOf_44
    · refine zr_if (fun hx => ?_) (fun _ => ?_)
      · refine zr_tabIn (tgt := 45) C dX11_fieldOf_1 (by rw [hx]; decide) (by rw [hx]; decide) (off := 44) (by rw [hx]; decide) (by decide) ?_
        refine zr_aload_n C dX11_fieldOf_45 rfl ?_
        refine zf_X11_9 C (Nat.le_of_ble_eq_true rfl) dX11_fieldOf_46 ?_
        refine zr_iload_n C dX11_fieldOf_49 rfl ?_
        refine zr_aald (n := 10) (k1 := 62) C dX11_fieldOf_50 (Nat.le_of_ble_eq_true rfl) rfl rfl rfl (fun hb50 => ?_)
        refine zr_iconst (v := 3) C dX11_fieldOf_51 rfl ?_
        refine zr_iald (n := 5) C dX11_fieldOf_52 hb50 rfl ?_
        exact zr_iret C dX11_fieldOf_53
      · refine zr_if (fun hx => ?_) (fun _ => ?_)
        · refine zr_tabIn (tgt := 54) C dX11_fieldOf_1 (by rw [hx]; decide) (by rw [hx]; decide) (off := 53) (by rw [hx]; decide) (by decide) ?_
          refine zr_aload_n C dX11_fieldOf_54 rfl ?_
          refine zf_X11_9 C (Nat.le_of_ble_eq_true rfl) dX11_fieldOf_55 ?_
          refine zr_iload_n C dX11_fieldOf_58 rfl ?_
          refine zr_aald (n := 10) (k1 := 62) C dX11_fieldOf_59 (Nat.le_of_ble_eq_true rfl) rfl rfl rfl (fun hb59 => ?_)
          refine zr_iconst (v := 1) C dX11_fieldOf_60 rfl ?_
          refine zr_iald (n := 5) C dX11_fieldOf_61 hb59 rfl ?_
          exact zr_iret C dX11_fieldOf_62
        · refine zr_if (fun hx => ?_) (fun _ => ?_)
          · refine zr_tabIn (tgt := 63) C dX11_fieldOf_1 (by rw [hx]; decide) (by rw [hx]; decide) (off := 62) (by rw [hx]; decide) (by decide) ?_
            refine zr_aload_n C dX11_fieldOf_63 rfl ?_
            refine zf_X11_9 C (Nat.le_of_ble_eq_true rfl) dX11_fieldOf_64 ?_
            refine zr_iload_n C dX11_fieldOf_67 rfl ?_
            refine zr_aald (n := 10) (k1 := 62) C dX11_fieldOf_68 (Nat.le_of_ble_eq_true rfl) rfl rfl rfl (fun hb68 => ?_)
            refine zr_iconst (v := 0) C dX11_fieldOf_69 rfl ?_
            refine zr_iald (n := 5) C dX11_fieldOf_70 hb68 rfl ?_
            exact zr_iret C dX11_fieldOf_71
          · refine zr_if (fun hx => ?_) (fun _ => ?_)
            · refine zr_tabIn (tgt := 72) C dX11_fieldOf_1 (by rw [hx]; decide) (by rw [hx]; decide) (off := 71) (by rw [hx]; decide) (by decide) ?_
              refine zr_iload_n C dX11_fieldOf_72 rfl ?_
              refine zr_sipush (v := 360) C dX11_fieldOf_73 rfl ?_
              refine zr_idiv C dX11_fieldOf_76 ?_
              exact zr_iret C dX11_fieldOf_77
            · exact zr_none
theorem zk_X11_322 (C : zCx E cc RX11 nL ret Z h) (F : Nat) {b0 : Int32} {b1 : Int32} {b2 : Int32} (hk : 0 < zN 60) (hh : 1 + 1 ≤ h) (hst8 : (st.map fun v => v.category).sum ≤ 8) (hd : decode cc pc = .ok (.invokevirtual 322, 3)) {g : Int32 → zMem → Option (α × zMem)} (kk : ∀ (r : Int32) (σ1 : zMem), zKO E nL Z QQ (pc + 3) L (.int r :: st) σ1 (g r σ1)) : zKO E nL Z QQ pc L (.int b2 :: .int b1 :: .int b0 :: .ref (zad Z 60 0) :: st) σ (zb (f_X11_fieldOf F σ b0 b1 b2) g) :=
  zr_callVI (As := [.int b0, .int b1, .int b2]) (ia := 3) C (fun r σ1 ho => c_X11_fieldOf (zla E) Z F σ b0 b1 b2 r σ1 ho) wz_1474 hk rfl rfl wz_p102 wz_1476 wz_1477 wz_12 (by decide +kernel) rfl (by decide) hh hd hst8 kk
def f_X11_one_101 (F : Nat) (σ : zMem) (s0 : Int32) (s1 : Int32) : Option (Int32 × zMem) := if s1 = s0 then (some (0, σ)) else (some (1, σ))
set_option maxHeartbeats 4000000 in
set_option maxRecDepth 100000 in
theorem c_X11_one_101 (F : Nat) {E : zEn} {h : Nat} {Z : zLay} (C : zCx E cX11_one RX11 7 (some .boolean) Z h) (hh : 2 ≤ h) (σ : zMem) (s0 : Int32) (s1 : Int32) : zKO E 7 Z (zMQ E Z (zQI Z)) 101 [] [.int s0, .int s1] σ (f_X11_one_101 F σ s0 s1) := by
  unfold f_X11_one_101
  refine zr_icmp_eq (tgt := 108) C dX11_one_101 (by decide) ?_ ?_
  · refine zr_iconst (v := 0) C dX11_one_108 rfl ?_
    exact zr_zret C dX11_one_109 rfl
  · refine zr_iconst (v := 1) C dX11_one_104 rfl ?_
    refine zr_goto (tgt := 109) C dX11_one_105 (by decide) ?_
    exact zr_zret C dX11_one_109 rfl
def f_X11_one_85 (F : Nat) (σ : zMem) (l1 : Nat) (l2 : Int32) (s0 : Int32) : Option (Int32 × zMem) := zg (decide (l1 < 41)) (zg (inb l2 24) (if (σ.1 82 l1 l2.toNatClampNeg) = 1 then (f_X11_one_101 F σ 1 s0) else (f_X11_one_101 F σ 0 s0)))
set_option maxHeartbeats 4000000 in
set_option maxRecDepth 100000 in
theorem c_X11_one_85 (F : Nat) {E : zEn} {h : Nat} {Z : zLay} (C : zCx E cX11_one RX11 7 (some .boolean) Z h) (hh : 2 ≤ h) (σ : zMem) (l1 : Nat) (l2 : Int32) (s0 : Int32) : zKO E 7 Z (zMQ E Z (zQI Z)) 85 [(1, .ref (zad Z 82 l1)), (2, .int l2)] [.int s0] σ (f_X11_one_85 F σ l1 l2 s0) := by
  unfold f_X11_one_85
  refine zr_g (fun hl1 => ?_)
  refine zr_istore (i := 6) (L1 := [(6, .int _), (1, .ref _), (2, .int _)]) C dX11_one_85 (by decide) rfl ?_
  refine zr_iload C dX11_one_87 rfl ?_
  refine zr_aload_n C dX11_one_89 rfl ?_
  refine zr_iload_n C dX11_one_90 rfl ?_
  refine zr_iald (n := 24) C dX11_one_91 (of_decide_eq_true hl1) rfl ?_
  refine zr_iconst (v := 1) C dX11_one_92 rfl ?_
  refine zr_icmp_ne (tgt := 100) C dX11_one_93 (by decide) ?_ ?_
  · refine zr_iconst (v := 0) C dX11_one_100 rfl ?_
    exact zr_sub [] rfl (c_X11_one_101 F C hh σ 0 s0)
  · refine zr_iconst (v := 1) C dX11_one_96 rfl ?_
    refine zr_goto (tgt := 101) C dX11_one_97 (by decide) ?_
    exact zr_sub [] rfl (c_X11_one_101 F C hh σ 1 s0)
def f_X11_one (F : Nat) (σ : zMem) (a1 : Nat) (a2 : Int32) (a3 : Int32) (a4 : Int32) : Option (Int32 × zMem) := zg (decide (a1 < 41)) (zg (inb ((a2 + 1)) 24) (zb (f_X11_fieldOf F σ ((σ.1 82 a1 ((a2 + 1)).toNatClampNeg)) a3 a4) fun r9 m9 => zg (inb ((a2 + 3)) 24) (if (m9.1 82 a1 ((a2 + 3)).toNatClampNeg) = 60 then (zg (inb ((a2 + 4)) 24) (if (m9.1 82 a1 ((a2 + 4)).toNatClampNeg) ≤ r9 then (f_X11_one_85 F m9 a1 a2 0) else (f_X11_one_85 F m9 a1 a2 1))) else (zg (inb ((a2 + 3)) 24) (if (m9.1 82 a1 ((a2 + 3)).toNatClampNeg) = 61 then (zg (inb ((a2 + 4)) 24) (if r9 = (m9.1 82 a1 ((a2 + 4)).toNatClampNeg) then (f_X11_one_85 F m9 a1 a2 1) else (f_X11_one_85 F m9 a1 a2 0))) else (zg (inb ((a2 + 4)) 24) (if r9 ≤ (m9.1 82 a1 ((a2 + 4)).toNatClampNeg) then (f_X11_one_85 F m9 a1 a2 0) else (f_X11_one_85 F m9 a1 a2 1))))))))
set_option maxHeartbeats 4000000 in
set_option maxRecDepth 100000 in
theorem c_X11_one (l : Launch) (Z : zLay) (F : Nat) (σ : zMem) (a1 : Nat) (a2 : Int32) (a3 : Int32) (a4 : Int32) (r : Int32) (σ1 : zMem) (ho : f_X11_one F σ a1 a2 a3 a4 = some (r, σ1)) : zMet l yX11_one cX11_one 7 (some .boolean) 2 Z [.ref (zad Z 60 0), .ref (zad Z 82 a1), .int (a2), .int (a3), .int (a4)] σ (zQI Z r σ1) := by
  refine zMet_of (Qc := zQI Z) (by decide) (Nat.le_of_ble_eq_true rfl) [(0, .ref (zad Z 60 0)), (1, .ref (zad Z 82 a1)), (2, .int (a2)), (3, .int (a3)), (4, .int (a4))] rfl (fun E C => ?_) ho
  have hh : 2 ≤ 2 := Nat.le_refl _
  show zKO E 7 Z (zMQ E Z (zQI Z)) 0 [(0, .ref (zad Z 60 0)), (1, .ref (zad Z 82 a1)), (2, .int (a2)), (3, .int (a3)), (4, .int (a4))] [] σ _
  unfold f_X11_one
  refine zr_g (fun ha1 => ?_)
  refine zr_aload_n C dX11_one_0 rfl ?_
  refine zr_aload_n C dX11_one_1 rfl ?_
  refine zr_iload_n C dX11_one_2 rfl ?_
  refine zr_iconst (v := 1) C dX11_one_3 rfl ?_
  refine zr_iadd C dX11_one_4 ?_
  refine zr_iald (n := 24) C dX11_one_5 (of_decide_eq_true ha1) rfl ?_
  refine zr_iload_n C dX11_one_6 rfl ?_
  refine zr_iload C dX11_one_7 rfl ?_
  refine zk_X11_322 C F (Nat.le_of_ble_eq_true rfl) (Nat.le_trans (by decide) hh) (by simp [Value.category]) dX11_one_9 (fun r9 m9 => ?_)
  refine zr_istore (i := 5) (L1 := [(5, .int _), (0, .ref _), (1, .ref _), (2, .int _), (3, .int _), (4, .int _)]) C dX11_one_12 (by decide) rfl ?_
  refine zr_aload_n C dX11_one_14 rfl ?_
  refine zr_iload_n C dX11_one_15 rfl ?_
  refine zr_iconst (v := 3) C dX11_one_16 rfl ?_
  refine zr_iadd C dX11_one_17 ?_
  refine zr_iald (n := 24) C dX11_one_18 (of_decide_eq_true ha1) rfl ?_
  refine zr_bipush (v := 60) C dX11_one_19 rfl ?_
  refine zr_icmp_ne (tgt := 42) C dX11_one_21 (by decide) ?_ ?_
  · refine zr_aload_n C dX11_one_42 rfl ?_
    refine zr_iload_n C dX11_one_43 rfl ?_
    refine zr_iconst (v := 3) C dX11_one_44 rfl ?_
    refine zr_iadd C dX11_one_45 ?_
    refine zr_iald (n := 24) C dX11_one_46 (of_decide_eq_true ha1) rfl ?_
    refine zr_bipush (v := 61) C dX11_one_47 rfl ?_
    refine zr_icmp_ne (tgt := 70) C dX11_one_49 (by decide) ?_ ?_
    · refine zr_iload C dX11_one_70 rfl ?_
      refine zr_aload_n C dX11_one_72 rfl ?_
      refine zr_iload_n C dX11_one_73 rfl ?_
      refine zr_iconst (v := 4) C dX11_one_74 rfl ?_
      refine zr_iadd C dX11_one_75 ?_
      refine zr_iald (n := 24) C dX11_one_76 (of_decide_eq_true ha1) rfl ?_
      refine zr_icmp_le (tgt := 84) C dX11_one_77 (by decide) ?_ ?_
      · refine zr_iconst (v := 0) C dX11_one_84 rfl ?_
        exact zr_sub [2, 3] rfl (c_X11_one_85 F C hh m9 a1 a2 0)
      · refine zr_iconst (v := 1) C dX11_one_80 rfl ?_
        refine zr_goto (tgt := 85) C dX11_one_81 (by decide) ?_
        exact zr_sub [2, 3] rfl (c_X11_one_85 F C hh m9 a1 a2 1)
    · refine zr_iload C dX11_one_52 rfl ?_
      refine zr_aload_n C dX11_one_54 rfl ?_
      refine zr_iload_n C dX11_one_55 rfl ?_
      refine zr_iconst (v := 4) C dX11_one_56 rfl ?_
      refine zr_iadd C dX11_one_57 ?_
      refine zr_iald (n := 24) C dX11_one_58 (of_decide_eq_true ha1) rfl ?_
      refine zr_icmp_ne (tgt := 66) C dX11_one_59 (by decide) ?_ ?_
      · refine zr_iconst (v := 0) C dX11_one_66 rfl ?_
        refine zr_goto (tgt := 85) C dX11_one_67 (by decide) ?_
        exact zr_sub [2, 3] rfl (c_X11_one_85 F C hh m9 a1 a2 0)
      · refine zr_iconst (v := 1) C dX11_one_62 rfl ?_
        refine zr_goto (tgt := 85) C dX11_one_63 (by decide) ?_
        exact zr_sub [2, 3] rfl (c_X11_one_85 F C hh m9 a1 a2 1)
  · refine zr_iload C dX11_one_24 rfl ?_
    refine zr_aload_n C dX11_one_26 rfl ?_
    refine zr_iload_n C dX11_one_27 rfl ?_
    refine zr_iconst (v := 4) C dX11_one_28 rfl ?_
    refine zr_iadd C dX11_one_29 ?_
    refine zr_iald (n := 24) C dX11_one_30 (of_decide_eq_true ha1) rfl ?_
    refine zr_icmp_ge (tgt := 38) C dX11_one_31 (by decide) ?_ ?_
    · refine zr_iconst (v := 0) C dX11_one_38 rfl ?_
      refine zr_goto (tgt := 85) C dX11_one_39 (by decide) ?_
      exact zr_sub [2, 3] rfl (c_X11_one_85 F C hh m9 a1 a2 0)
    · refine zr_iconst (v := 1) C dX11_one_34 rfl ?_
      refine zr_goto (tgt := 85) C dX11_one_35 (by decide) ?_
      exact zr_sub [2, 3] rfl (c_X11_one_85 F C hh m9 a1 a2 1)
theorem zk_X11_325 (C : zCx E cc RX11 nL ret Z h) (F : Nat) {b0 : Nat} {b1 : Int32} {b2 : Int32} {b3 : Int32} (hk : 0 < zN 60) (hh : 2 + 1 ≤ h) (hst8 : (st.map fun v => v.category).sum ≤ 8) (hd : decode cc pc = .ok (.invokevirtual 325, 3)) {g : Int32 → zMem → Option (α × zMem)} (kk : ∀ (r : Int32) (σ1 : zMem), zKO E nL Z QQ (pc + 3) L (.int r :: st) σ1 (g r σ1)) : zKO E nL Z QQ pc L (.int b3 :: .int b2 :: .int b1 :: .ref (zad Z 82 b0) :: .ref (zad Z 60 0) :: st) σ (zb (f_X11_one F σ b0 b1 b2 b3) g) :=
  zr_callVI (As := [.ref (zad Z 82 b0), .int b1, .int b2, .int b3]) (ia := 4) C (fun r σ1 ho => c_X11_one (zla E) Z F σ b0 b1 b2 b3 r σ1 ho) wz_1470 hk rfl rfl wz_p101 wz_1472 wz_1473 wz_12 (by decide +kernel) rfl (by decide) hh hd hst8 kk
def f_X11_hold_63 (F : Nat) (rec22 : zMem → Int32 × Int32 × Int32 × Int32 × Int32 × Int32 → Option (Int32 × zMem)) (σ : zMem) (l1 : Int32) (l2 : Int32) (l3 : Int32) (l4 : Int32) (l5 : Int32) (l6 : Int32) : Option (Int32 × zMem) := zg (inb l1 41) (zb (f_X11_one F σ l1.toNatClampNeg ((6 * l6)) l2 l3) fun r79 m79 => rec22 m79 ((l1, l2, l3, l4, (l5 &&& r79), (l6 + 1))))
set_option maxHeartbeats 4000000 in
set_option maxRecDepth 100000 in
theorem c_X11_hold_63 (F : Nat) (rec22 : zMem → Int32 × Int32 × Int32 × Int32 × Int32 × Int32 → Option (Int32 × zMem)) {E : zEn} {h : Nat} {Z : zLay} (C : zCx E cX11_hold RX11 7 (some .boolean) Z h) (hh : 3 ≤ h) (hrec22 : ∀ (σ : zMem) (x : Int32 × Int32 × Int32 × Int32 × Int32 × Int32), zKO E 7 Z (zMQ E Z (zQI Z)) 22 [(0, .ref (zad Z 60 0)), (1, .int x.1), (2, .int x.2.1), (3, .int x.2.2.1), (4, .int x.2.2.2.1), (5, .int x.2.2.2.2.1), (6, .int x.2.2.2.2.2)] [] σ (rec22 σ x)) (σ : zMem) (l1 : Int32) (l2 : Int32) (l3 : Int32) (l4 : Int32) (l5 : Int32) (l6 : Int32) : zKO E 7 Z (zMQ E Z (zQI Z)) 63 [(0, .ref (zad Z 60 0)), (1, .int l1), (2, .int l2), (3, .int l3), (4, .int l4), (5, .int l5), (6, .int l6)] [] σ (f_X11_hold_63 F rec22 σ l1 l2 l3 l4 l5 l6) := by
  unfold f_X11_hold_63
  refine zr_iload C dX11_hold_63 rfl ?_
  refine zr_aload_n C dX11_hold_65 rfl ?_
  refine zr_aload_n C dX11_hold_66 rfl ?_
  refine zf_X11_63 C (Nat.le_of_ble_eq_true rfl) dX11_hold_67 ?_
  refine zr_iload_n C dX11_hold_70 rfl ?_
  refine zr_aald (n := 41) (k1 := 82) C dX11_hold_71 (Nat.le_of_ble_eq_true rfl) rfl rfl rfl (fun hb71 => ?_)
  refine zr_bipush (v := 6) C dX11_hold_72 rfl ?_
  refine zr_iload C dX11_hold_74 rfl ?_
  refine zr_imul C dX11_hold_76 ?_
  refine zr_iload_n C dX11_hold_77 rfl ?_
  refine zr_iload_n C dX11_hold_78 rfl ?_
  refine zk_X11_325 C F (Nat.le_of_ble_eq_true rfl) (Nat.le_trans (by decide) hh) (by simp [Value.category]) dX11_hold_79 (fun r79 m79 => ?_)
  refine zr_iand C dX11_hold_82 ?_
  refine zr_istore (i := 5) (L1 := [(5, .int _), (0, .ref _), (1, .int _), (2, .int _), (3, .int _), (4, .int _), (6, .int _)]) C dX11_hold_83 (by decide) rfl ?_
  refine zr_iinc (kk := 6) (v := (l6 + 1)) (L1 := [(6, .int _), (5, .int _), (0, .ref _), (1, .int _), (2, .int _), (3, .int _), (4, .int _)]) C dX11_hold_85 rfl rfl (by decide) rfl ?_
  refine zr_goto (tgt := 22) C dX11_hold_88 (by decide) ?_
  exact zr_sub [2, 3, 4, 5, 6, 1, 0] rfl (hrec22 m79 ((l1, l2, l3, l4, (l5 &&& r79), (l6 + 1))))
def f_X11_hold_113 (F : Nat) (σ : zMem) (s0 : Int32) (s1 : Int32) : Option (Int32 × zMem) := if s1 = s0 then (some (1, σ)) else (some (0, σ))
set_option maxHeartbeats 4000000 in
set_option maxRecDepth 100000 in
theorem c_X11_hold_113 (F : Nat) {E : zEn} {h : Nat} {Z : zLay} (C : zCx E cX11_hold RX11 7 (some .boolean) Z h) (hh : 3 ≤ h) (σ : zMem) (s0 : Int32) (s1 : Int32) : zKO E 7 Z (zMQ E Z (zQI Z)) 113 [] [.int s0, .int s1] σ (f_X11_hold_113 F σ s0 s1) := by
  unfold f_X11_hold_113
  refine zr_icmp_ne (tgt := 120) C dX11_hold_113 (by decide) ?_ ?_
  · refine zr_iconst (v := 0) C dX11_hold_120 rfl ?_
    exact zr_zret C dX11_hold_121 rfl
  · refine zr_iconst (v := 1) C dX11_hold_116 rfl ?_
    refine zr_goto (tgt := 121) C dX11_hold_117 (by decide) ?_
    exact zr_zret C dX11_hold_121 rfl
def f_X11_hold_22 (F : Nat) (rec22 : zMem → Int32 × Int32 × Int32 × Int32 × Int32 × Int32 → Option (Int32 × zMem)) (σ : zMem) (x : Int32 × Int32 × Int32 × Int32 × Int32 × Int32) : Option (Int32 × zMem) := zg (inb x.1 41) (zg (inb 3 6) (if (σ.1 80 x.1.toNatClampNeg 3) ≤ x.2.2.2.2.2 then (zg (inb x.1 41) (zg (inb 2 6) (if (σ.1 80 x.1.toNatClampNeg 2) = 1 then (f_X11_hold_113 F σ 1 ((x.2.2.2.1 ||| x.2.2.2.2.1))) else (f_X11_hold_113 F σ 0 ((x.2.2.2.1 ||| x.2.2.2.2.1)))))) else (zg (inb x.1 41) (zg (inb (((6 * x.2.2.2.2.2) + 5)) 24) (if (σ.1 82 x.1.toNatClampNeg (((6 * x.2.2.2.2.2) + 5)).toNatClampNeg) = 1 then (f_X11_hold_63 F rec22 σ x.1 x.2.1 x.2.2.1 ((x.2.2.2.1 ||| x.2.2.2.2.1)) 1 x.2.2.2.2.2) else (f_X11_hold_63 F rec22 σ x.1 x.2.1 x.2.2.1 x.2.2.2.1 x.2.2.2.2.1 x.2.2.2.2.2))))))
set_option maxHeartbeats 4000000 in
set_option maxRecDepth 100000 in
theorem c_X11_hold_22 (F : Nat) {E : zEn} {h : Nat} {Z : zLay} (C : zCx E cX11_hold RX11 7 (some .boolean) Z h) (hh : 3 ≤ h) : ∀ (n : Nat) (σ : zMem) (x : Int32 × Int32 × Int32 × Int32 × Int32 × Int32), zKO E 7 Z (zMQ E Z (zQI Z)) 22 [(0, .ref (zad Z 60 0)), (1, .int x.1), (2, .int x.2.1), (3, .int x.2.2.1), (4, .int x.2.2.2.1), (5, .int x.2.2.2.2.1), (6, .int x.2.2.2.2.2)] [] σ (zit (f_X11_hold_22 F) n σ x) := by
  refine zr_loop (LL := fun (x : Int32 × Int32 × Int32 × Int32 × Int32 × Int32) => [(0, .ref (zad Z 60 0)), (1, .int x.1), (2, .int x.2.1), (3, .int x.2.2.1), (4, .int x.2.2.2.1), (5, .int x.2.2.2.2.1), (6, .int x.2.2.2.2.2)]) (ST := fun (x : Int32 × Int32 × Int32 × Int32 × Int32 × Int32) => []) (fun rec22 hrec22 σ x => ?_)
  obtain ⟨l1, l2, l3, l4, l5, l6⟩ := x
  show zKO E 7 Z (zMQ E Z (zQI Z)) 22 [(0, .ref (zad Z 60 0)), (1, .int l1), (2, .int l2), (3, .int l3), (4, .int l4), (5, .int l5), (6, .int l6)] [] σ (zg (inb l1 41) (zg (inb 3 6) (if (σ.1 80 l1.toNatClampNeg 3) ≤ l6 then (zg (inb l1 41) (zg (inb 2 6) (if (σ.1 80 l1.toNatClampNeg 2) = 1 then (f_X11_hold_113 F σ 1 ((l4 ||| l5))) else (f_X11_hold_113 F σ 0 ((l4 ||| l5)))))) else (zg (inb l1 41) (zg (inb (((6 * l6) + 5)) 24) (if (σ.1 82 l1.toNatClampNeg (((6 * l6) + 5)).toNatClampNeg) = 1 then (f_X11_hold_63 F rec22 σ l1 l2 l3 ((l4 ||| l5)) 1 l6) else (f_X11_hold_63 F rec22 σ l1 l2 l3 l4 l5 l6)))))))
  refine zr_iload C dX11_hold_22 rfl ?_
  refine zr_aload_n C dX11_hold_24 rfl ?_
  refine zf_X11_60 C (Nat.le_of_ble_eq_true rfl) dX11_hold_25 ?_
  refine zr_iload_n C dX11_hold_28 rfl ?_
  refine zr_aald (n := 41) (k1 := 80) C dX11_hold_29 (Nat.le_of_ble_eq_true rfl) rfl rfl rfl (fun hb29 => ?_)
  refine zr_iconst (v := 3) C dX11_hold_30 rfl ?_
  refine zr_iald (n := 6) C dX11_hold_31 hb29 rfl ?_
  refine zr_icmp_ge (tgt := 91) C dX11_hold_32 (by decide) ?_ ?_
  · refine zr_iload C dX11_hold_91 rfl ?_
    refine zr_iload C dX11_hold_93 rfl ?_
    refine zr_ior C dX11_hold_95 ?_
    refine zr_aload_n C dX11_hold_96 rfl ?_
    refine zf_X11_60 C (Nat.le_of_ble_eq_true rfl) dX11_hold_97 ?_
    refine zr_iload_n C dX11_hold_100 rfl ?_
    refine zr_aald (n := 41) (k1 := 80) C dX11_hold_101 (Nat.le_of_ble_eq_true rfl) rfl rfl rfl (fun hb101 => ?_)
    refine zr_iconst (v := 2) C dX11_hold_102 rfl ?_
    refine zr_iald (n := 6) C dX11_hold_103 hb101 rfl ?_
    refine zr_iconst (v := 1) C dX11_hold_104 rfl ?_
    refine zr_icmp_ne (tgt := 112) C dX11_hold_105 (by decide) ?_ ?_
    · refine zr_iconst (v := 0) C dX11_hold_112 rfl ?_
      exact zr_sub [] rfl (c_X11_hold_113 F C hh σ 0 ((l4 ||| l5)))
    · refine zr_iconst (v := 1) C dX11_hold_108 rfl ?_
      refine zr_goto (tgt := 113) C dX11_hold_109 (by decide) ?_
      exact zr_sub [] rfl (c_X11_hold_113 F C hh σ 1 ((l4 ||| l5)))
  · refine zr_aload_n C dX11_hold_35 rfl ?_
    refine zf_X11_63 C (Nat.le_of_ble_eq_true rfl) dX11_hold_36 ?_
    refine zr_iload_n C dX11_hold_39 rfl ?_
    refine zr_aald (n := 41) (k1 := 82) C dX11_hold_40 (Nat.le_of_ble_eq_true rfl) rfl rfl rfl (fun hb40 => ?_)
    refine zr_bipush (v := 6) C dX11_hold_41 rfl ?_
    refine zr_iload C dX11_hold_43 rfl ?_
    refine zr_imul C dX11_hold_45 ?_
    refine zr_iconst (v := 5) C dX11_hold_46 rfl ?_
    refine zr_iadd C dX11_hold_47 ?_
    refine zr_iald (n := 24) C dX11_hold_48 hb40 rfl ?_
    refine zr_iconst (v := 1) C dX11_hold_49 rfl ?_
    refine zr_icmp_ne (tgt := 63) C dX11_hold_50 (by decide) ?_ ?_
    · exact zr_sub [0, 1, 2, 3, 4, 5, 6] rfl (c_X11_hold_63 F rec22 C hh hrec22 σ l1 l2 l3 l4 l5 l6)
    · refine zr_iload C dX11_hold_53 rfl ?_
      refine zr_iload C dX11_hold_55 rfl ?_
      refine zr_ior C dX11_hold_57 ?_
      refine zr_istore (i := 4) (L1 := [(4, .int _), (0, .ref _), (1, .int _), (2, .int _), (3, .int _), (5, .int _), (6, .int _)]) C dX11_hold_58 (by decide) rfl ?_
      refine zr_iconst (v := 1) C dX11_hold_60 rfl ?_
      refine zr_istore (i := 5) (L1 := [(5, .int _), (4, .int _), (0, .ref _), (1, .int _), (2, .int _), (3, .int _), (6, .int _)]) C dX11_hold_61 (by decide) rfl ?_
      exact zr_sub [2, 3, 4, 5, 1, 0, 6] rfl (c_X11_hold_63 F rec22 C hh hrec22 σ l1 l2 l3 ((l4 ||| l5)) 1 l6)
def f_X11_hold (F : Nat) (σ : zMem) (a1 : Int32) (a2 : Int32) (a3 : Int32) : Option (Int32 × zMem) := zg (inb a1 41) (zg (inb 2 6) (if (σ.1 80 a1.toNatClampNeg 2) = 0 then (some (1, σ)) else (zit (f_X11_hold_22 F) F σ ((a1, a2, a3, 0, 1, 0)))))
set_option maxHeartbeats 4000000 in
set_option maxRecDepth 100000 in
theorem c_X11_hold (l : Launch) (Z : zLay) (F : Nat) (σ : zMem) (a1 : Int32) (a2 : Int32) (a3 : Int32) (r : Int32) (σ1 : zMem) (ho : f_X11_hold F σ a1 a2 a3 = some (r, σ1)) : zMet l yX11_hold cX11_hold 7 (some .boolean) 3 Z [.ref (zad Z 60 0), .int (a1), .int (a2), .int (a3)] σ (zQI Z r σ1) := by
  refine zMet_of (Qc := zQI Z) (by decide) (Nat.le_of_ble_eq_true rfl) [(0, .ref (zad Z 60 0)), (1, .int (a1)), (2, .int (a2)), (3, .int (a3))] rfl (fun E C => ?_) ho
  have hh : 3 ≤ 3 := Nat.le_refl _
  show zKO E 7 Z (zMQ E Z (zQI Z)) 0 [(0, .ref (zad Z 60 0)), (1, .int (a1)), (2, .int (a2)), (3, .int (a3))] [] σ _
  unfold f_X11_hold
  refine zr_aload_n C dX11_hold_0 rfl ?_
  refine zf_X11_60 C (Nat.le_of_ble_eq_true rfl) dX11_hold_1 ?_
  refine zr_iload_n C dX11_hold_4 rfl ?_
  refine zr_aald (n := 41) (k1 := 80) C dX11_hold_5 (Nat.le_of_ble_eq_true rfl) rfl rfl rfl (fun hb5 => ?_)
  refine zr_iconst (v := 2) C dX11_hold_6 rfl ?_
  refine zr_iald (n := 6) C dX11_hold_7 hb5 rfl ?_
  refine zr_if_ne (tgt := 13) C dX11_hold_8 (by decide) ?_ ?_
  · refine zr_iconst (v := 0) C dX11_hold_13 rfl ?_
    refine zr_istore (i := 4) (L1 := [(4, .int _), (0, .ref _), (1, .int _), (2, .int _), (3, .int _)]) C dX11_hold_14 (by decide) rfl ?_
    refine zr_iconst (v := 1) C dX11_hold_16 rfl ?_
    refine zr_istore (i := 5) (L1 := [(5, .int _), (4, .int _), (0, .ref _), (1, .int _), (2, .int _), (3, .int _)]) C dX11_hold_17 (by decide) rfl ?_
    refine zr_iconst (v := 0) C dX11_hold_19 rfl ?_
    refine zr_istore (i := 6) (L1 := [(6, .int _), (5, .int _), (4, .int _), (0, .ref _), (1, .int _), (2, .int _), (3, .int _)]) C dX11_hold_20 (by decide) rfl ?_
    exact zr_sub [3, 4, 5, 6, 2, 1, 0] rfl (c_X11_hold_22 F C hh F σ ((a1, a2, a3, 0, 1, 0)))
  · refine zr_iconst (v := 1) C dX11_hold_11 rfl ?_
    exact zr_zret C dX11_hold_12 rfl
theorem zk_X11_329 (C : zCx E cc RX11 nL ret Z h) (F : Nat) {b0 : Int32} {b1 : Int32} {b2 : Int32} (hk : 0 < zN 60) (hh : 3 + 1 ≤ h) (hst8 : (st.map fun v => v.category).sum ≤ 8) (hd : decode cc pc = .ok (.invokevirtual 329, 3)) {g : Int32 → zMem → Option (α × zMem)} (kk : ∀ (r : Int32) (σ1 : zMem), zKO E nL Z QQ (pc + 3) L (.int r :: st) σ1 (g r σ1)) : zKO E nL Z QQ pc L (.int b2 :: .int b1 :: .int b0 :: .ref (zad Z 60 0) :: st) σ (zb (f_X11_hold F σ b0 b1 b2) g) :=
  zr_callVI (As := [.int b0, .int b1, .int b2]) (ia := 3) C (fun r σ1 ho => c_X11_hold (zla E) Z F σ b0 b1 b2 r σ1 ho) wz_1466 hk rfl rfl wz_p100 wz_1468 wz_1469 wz_12 (by decide +kernel) rfl (by decide) hh hd hst8 kk
def f_X11_whyOf_73 (F : Nat) (rec6 : zMem → Int32 × Int32 × Int32 × Int32 × Int32 × Int32 → Option (Int32 × zMem)) (σ : zMem) (l1 : Int32) (l2 : Int32) (l3 : Int32) (l4 : Int32) (l5 : Int32) (l6 : Int32) (s0 : Int32) : Option (Int32 × zMem) := if s0 = 0 then (rec6 σ ((l1, l2, l3, l4, l5, (l6 + 1)))) else (zg (inb l6 41) (zg (inb 0 6) (if (σ.1 80 l6.toNatClampNeg 0) = l2 then (zb (f_X11_hold F σ l6 l1 l3) fun r98 m98 => if r98 = 0 then (rec6 m98 ((l1, l2, l3, l4, l5, (l6 + 1)))) else (rec6 m98 ((l1, l2, l3, l4, l6, (l6 + 1))))) else (rec6 σ ((l1, l2, l3, l4, l5, (l6 + 1)))))))
set_option maxHeartbeats 4000000 in
set_option maxRecDepth 100000 in
theorem c_X11_whyOf_73 (F : Nat) (rec6 : zMem → Int32 × Int32 × Int32 × Int32 × Int32 × Int32 → Option (Int32 × zMem)) {E : zEn} {h : Nat} {Z : zLay} (C : zCx E cX11_whyOf RX11 8 (some .int) Z h) (hh : 4 ≤ h) (hrec6 : ∀ (σ : zMem) (x : Int32 × Int32 × Int32 × Int32 × Int32 × Int32), zKO E 8 Z (zMQ E Z (zQI Z)) 6 [(0, .ref (zad Z 60 0)), (1, .int x.1), (2, .int x.2.1), (3, .int x.2.2.1), (4, .int x.2.2.2.1), (5, .int x.2.2.2.2.1), (6, .int x.2.2.2.2.2)] [] σ (rec6 σ x)) (σ : zMem) (l1 : Int32) (l2 : Int32) (l3 : Int32) (l4 : Int32) (l5 : Int32) (l6 : Int32) (s0 : Int32) : zKO E 8 Z (zMQ E Z (zQI Z)) 73 [(0, .ref (zad Z 60 0)), (1, .int l1), (2, .int l2), (3, .int l3), (4, .int l4), (5, .int l5), (6, .int l6)] [.int s0] σ (f_X11_whyOf_73 F rec6 σ l1 l2 l3 l4 l5 l6 s0) := by
  unfold f_X11_whyOf_73
  refine zr_istore (i := 7) (L1 := [(7, .int _), (0, .ref _), (1, .int _), (2, .int _), (3, .int _), (4, .int _), (5, .int _), (6, .int _)]) C dX11_whyOf_73 (by decide) rfl ?_
  refine zr_iload C dX11_whyOf_75 rfl ?_
  refine zr_if_eq (tgt := 108) C dX11_whyOf_77 (by decide) ?_ ?_
  · refine zr_iinc (kk := 7) (v := (l6 + 1)) (L1 := [(6, .int _), (7, .int _), (0, .ref _), (1, .int _), (2, .int _), (3, .int _), (4, .int _), (5, .int _)]) C dX11_whyOf_108 rfl rfl (by decide) rfl ?_
    refine zr_goto (tgt := 6) C dX11_whyOf_111 (by decide) ?_
    exact zr_sub [2, 3, 4, 5, 6, 7, 0] rfl (hrec6 σ ((l1, l2, l3, l4, l5, (l6 + 1))))
  · refine zr_aload_n C dX11_whyOf_80 rfl ?_
    refine zf_X11_60 C (Nat.le_of_ble_eq_true rfl) dX11_whyOf_81 ?_
    refine zr_iload C dX11_whyOf_84 rfl ?_
    refine zr_aald (n := 41) (k1 := 80) C dX11_whyOf_86 (Nat.le_of_ble_eq_true rfl) rfl rfl rfl (fun hb86 => ?_)
    refine zr_iconst (v := 0) C dX11_whyOf_87 rfl ?_
    refine zr_iald (n := 6) C dX11_whyOf_88 hb86 rfl ?_
    refine zr_iload_n C dX11_whyOf_89 rfl ?_
    refine zr_icmp_ne (tgt := 108) C dX11_whyOf_90 (by decide) ?_ ?_
    · refine zr_iinc (kk := 7) (v := (l6 + 1)) (L1 := [(6, .int _), (7, .int _), (0, .ref _), (1, .int _), (2, .int _), (3, .int _), (4, .int _), (5, .int _)]) C dX11_whyOf_108 rfl rfl (by decide) rfl ?_
      refine zr_goto (tgt := 6) C dX11_whyOf_111 (by decide) ?_
      exact zr_sub [2, 3, 4, 5, 6, 7, 0] rfl (hrec6 σ ((l1, l2, l3, l4, l5, (l6 + 1))))
    · refine zr_aload_n C dX11_whyOf_93 rfl ?_
      refine zr_iload C dX11_whyOf_94 rfl ?_
      refine zr_iload_n C dX11_whyOf_96 rfl ?_
      refine zr_iload_n C dX11_whyOf_97 rfl ?_
      refine zk_X11_329 C F (Nat.le_of_ble_eq_true rfl) (Nat.le_trans (by decide) hh) (by simp [Value.category]) dX11_whyOf_98 (fun r98 m98 => ?_)
      refine zr_if_eq (tgt := 108) C dX11_whyOf_101 (by decide) ?_ ?_
      · refine zr_iinc (kk := 7) (v := (l6 + 1)) (L1 := [(6, .int _), (7, .int _), (0, .ref _), (1, .int _), (2, .int _), (3, .int _), (4, .int _), (5, .int _)]) C dX11_whyOf_108 rfl rfl (by decide) rfl ?_
        refine zr_goto (tgt := 6) C dX11_whyOf_111 (by decide) ?_
        exact zr_sub [2, 3, 4, 5, 6, 7, 0] rfl (hrec6 m98 ((l1, l2, l3, l4, l5, (l6 + 1))))
      · refine zr_iload C dX11_whyOf_104 rfl ?_
        refine zr_istore (i := 5) (L1 := [(5, .int _), (7, .int _), (0, .ref _), (1, .int _), (2, .int _), (3, .int _), (4, .int _), (6, .int _)]) C dX11_whyOf_106 (by decide) rfl ?_
        refine zr_iinc (kk := 7) (v := (l6 + 1)) (L1 := [(6, .int _), (5, .int _), (7, .int _), (0, .ref _), (1, .int _), (2, .int _), (3, .int _), (4, .int _)]) C dX11_whyOf_108 rfl rfl (by decide) rfl ?_
        refine zr_goto (tgt := 6) C dX11_whyOf_111 (by decide) ?_
        exact zr_sub [3, 4, 5, 6, 7, 1, 0] rfl (hrec6 m98 ((l1, l2, l3, l4, l6, (l6 + 1))))
def f_X11_whyOf_6 (F : Nat) (rec6 : zMem → Int32 × Int32 × Int32 × Int32 × Int32 × Int32 → Option (Int32 × zMem)) (σ : zMem) (x : Int32 × Int32 × Int32 × Int32 × Int32 × Int32) : Option (Int32 × zMem) := if (σ.1 60 0 20) ≤ x.2.2.2.2.2 then (some (x.2.2.2.2.1, σ)) else (zg (inb x.2.2.2.2.2 41) (zg (inb 4 6) (if x.2.2.1 < (σ.1 80 x.2.2.2.2.2.toNatClampNeg 4) then (f_X11_whyOf_73 F rec6 σ x.1 x.2.1 x.2.2.1 x.2.2.2.1 x.2.2.2.2.1 x.2.2.2.2.2 0) else (zg (inb x.2.2.2.2.2 41) (zg (inb 4 6) (if x.2.2.2.1 < (σ.1 80 x.2.2.2.2.2.toNatClampNeg 4) then (f_X11_whyOf_73 F rec6 σ x.1 x.2.1 x.2.2.1 x.2.2.2.1 x.2.2.2.2.1 x.2.2.2.2.2 0) else (zg (inb x.2.2.2.2.2 41) (zg (inb 5 6) (if (σ.1 80 x.2.2.2.2.2.toNatClampNeg 5) < 0 then (f_X11_whyOf_73 F rec6 σ x.1 x.2.1 x.2.2.1 x.2.2.2.1 x.2.2.2.2.1 x.2.2.2.2.2 1) else (zg (inb x.2.2.2.2.2 41) (zg (inb 5 6) (if (σ.1 80 x.2.2.2.2.2.toNatClampNeg 5) ≤ x.2.2.2.1 then (f_X11_whyOf_73 F rec6 σ x.1 x.2.1 x.2.2.1 x.2.2.2.1 x.2.2.2.2.1 x.2.2.2.2.2 0) else (f_X11_whyOf_73 F rec6 σ x.1 x.2.1 x.2.2.1 x.2.2.2.1 x.2.2.2.2.1 x.2.2.2.2.2 1)))))))))))))
set_option maxHeartbeats 4000000 in
set_option maxRecDepth 100000 in
theorem c_X11_whyOf_6 (F : Nat) {E : zEn} {h : Nat} {Z : zLay} (C : zCx E cX11_whyOf RX11 8 (some .int) Z h) (hh : 4 ≤ h) : ∀ (n : Nat) (σ : zMem) (x : Int32 × Int32 × Int32 × Int32 × Int32 × Int32), zKO E 8 Z (zMQ E Z (zQI Z)) 6 [(0, .ref (zad Z 60 0)), (1, .int x.1), (2, .int x.2.1), (3, .int x.2.2.1), (4, .int x.2.2.2.1), (5, .int x.2.2.2.2.1), (6, .int x.2.2.2.2.2)] [] σ (zit (f_X11_whyOf_6 F) n σ x) := by
  refine zr_loop (LL := fun (x : Int32 × Int32 × Int32 × Int32 × Int32 × Int32) => [(0, .ref (zad Z 60 0)), (1, .int x.1), (2, .int x.2.1), (3, .int x.2.2.1), (4, .int x.2.2.2.1), (5, .int x.2.2.2.2.1), (6, .int x.2.2.2.2.2)]) (ST := fun (x : Int32 × Int32 × Int32 × Int32 × Int32 × Int32) => []) (fun rec6 hrec6 σ x => ?_)
  obtain ⟨l1, l2, l3, l4, l5, l6⟩ := x
  show zKO E 8 Z (zMQ E Z (zQI Z)) 6 [(0, .ref (zad Z 60 0)), (1, .int l1), (2, .int l2), (3, .int l3), (4, .int l4), (5, .int l5), (6, .int l6)] [] σ (if (σ.1 60 0 20) ≤ l6 then (some (l5, σ)) else (zg (inb l6 41) (zg (inb 4 6) (if l3 < (σ.1 80 l6.toNatClampNeg 4) then (f_X11_whyOf_73 F rec6 σ l1 l2 l3 l4 l5 l6 0) else (zg (inb l6 41) (zg (inb 4 6) (if l4 < (σ.1 80 l6.toNatClampNeg 4) then (f_X11_whyOf_73 F rec6 σ l1 l2 l3 l4 l5 l6 0) else (zg (inb l6 41) (zg (inb 5 6) (if (σ.1 80 l6.toNatClampNeg 5) < 0 then (f_X11_whyOf_73 F rec6 σ l1 l2 l3 l4 l5 l6 1) else (zg (inb l6 41) (zg (inb 5 6) (if (σ.1 80 l6.toNatClampNeg 5) ≤ l4 then (f_X11_whyOf_73 F rec6 σ l1 l2 l3 l4 l5 l6 0) else (f_X11_whyOf_73 F rec6 σ l1 l2 l3 l4 l5 l6 1))))))))))))))
  refine zr_iload C dX11_whyOf_6 rfl ?_
  refine zr_aload_n C dX11_whyOf_8 rfl ?_
  refine zf_X11_289 C (Nat.le_of_ble_eq_true rfl) dX11_whyOf_9 ?_
  refine zr_icmp_ge (tgt := 114) C dX11_whyOf_12 (by decide) ?_ ?_
  · refine zr_iload C dX11_whyOf_114 rfl ?_
    exact zr_iret C dX11_whyOf_116
  · refine zr_aload_n C dX11_whyOf_15 rfl ?_
    refine zf_X11_60 C (Nat.le_of_ble_eq_true rfl) dX11_whyOf_16 ?_
    refine zr_iload C dX11_whyOf_19 rfl ?_
    refine zr_aald (n := 41) (k1 := 80) C dX11_whyOf_21 (Nat.le_of_ble_eq_true rfl) rfl rfl rfl (fun hb21 => ?_)
    refine zr_iconst (v := 4) C dX11_whyOf_22 rfl ?_
    refine zr_iald (n := 6) C dX11_whyOf_23 hb21 rfl ?_
    refine zr_iload_n C dX11_whyOf_24 rfl ?_
    refine zr_icmp_gt (tgt := 72) C dX11_whyOf_25 (by decide) ?_ ?_
    · refine zr_iconst (v := 0) C dX11_whyOf_72 rfl ?_
      exact zr_sub [0, 1, 2, 3, 4, 5, 6] rfl (c_X11_whyOf_73 F rec6 C hh hrec6 σ l1 l2 l3 l4 l5 l6 0)
    · refine zr_aload_n C dX11_whyOf_28 rfl ?_
      refine zf_X11_60 C (Nat.le_of_ble_eq_true rfl) dX11_whyOf_29 ?_
      refine zr_iload C dX11_whyOf_32 rfl ?_
      refine zr_aald (n := 41) (k1 := 80) C dX11_whyOf_34 (Nat.le_of_ble_eq_true rfl) rfl rfl rfl (fun hb34 => ?_)
      refine zr_iconst (v := 4) C dX11_whyOf_35 rfl ?_
      refine zr_iald (n := 6) C dX11_whyOf_36 hb34 rfl ?_
      refine zr_iload C dX11_whyOf_37 rfl ?_
      refine zr_icmp_gt (tgt := 72) C dX11_whyOf_39 (by decide) ?_ ?_
      · refine zr_iconst (v := 0) C dX11_whyOf_72 rfl ?_
        exact zr_sub [0, 1, 2, 3, 4, 5, 6] rfl (c_X11_whyOf_73 F rec6 C hh hrec6 σ l1 l2 l3 l4 l5 l6 0)
      · refine zr_aload_n C dX11_whyOf_42 rfl ?_
        refine zf_X11_60 C (Nat.le_of_ble_eq_true rfl) dX11_whyOf_43 ?_
        refine zr_iload C dX11_whyOf_46 rfl ?_
        refine zr_aald (n := 41) (k1 := 80) C dX11_whyOf_48 (Nat.le_of_ble_eq_true rfl) rfl rfl rfl (fun hb48 => ?_)
        refine zr_iconst (v := 5) C dX11_whyOf_49 rfl ?_
        refine zr_iald (n := 6) C dX11_whyOf_50 hb48 rfl ?_
        refine zr_if_lt (tgt := 68) C dX11_whyOf_51 (by decide) ?_ ?_
        · refine zr_iconst (v := 1) C dX11_whyOf_68 rfl ?_
          refine zr_goto (tgt := 73) C dX11_whyOf_69 (by decide) ?_
          exact zr_sub [0, 1, 2, 3, 4, 5, 6] rfl (c_X11_whyOf_73 F rec6 C hh hrec6 σ l1 l2 l3 l4 l5 l6 1)
        · refine zr_aload_n C dX11_whyOf_54 rfl ?_
          refine zf_X11_60 C (Nat.le_of_ble_eq_true rfl) dX11_whyOf_55 ?_
          refine zr_iload C dX11_whyOf_58 rfl ?_
          refine zr_aald (n := 41) (k1 := 80) C dX11_whyOf_60 (Nat.le_of_ble_eq_true rfl) rfl rfl rfl (fun hb60 => ?_)
          refine zr_iconst (v := 5) C dX11_whyOf_61 rfl ?_
          refine zr_iald (n := 6) C dX11_whyOf_62 hb60 rfl ?_
          refine zr_iload C dX11_whyOf_63 rfl ?_
          refine zr_icmp_le (tgt := 72) C dX11_whyOf_65 (by decide) ?_ ?_
          · refine zr_iconst (v := 0) C dX11_whyOf_72 rfl ?_
            exact zr_sub [0, 1, 2, 3, 4, 5, 6] rfl (c_X11_whyOf_73 F rec6 C hh hrec6 σ l1 l2 l3 l4 l5 l6 0)
          · refine zr_iconst (v := 1) C dX11_whyOf_68 rfl ?_
            refine zr_goto (tgt := 73) C dX11_whyOf_69 (by decide) ?_
            exact zr_sub [0, 1, 2, 3, 4, 5, 6] rfl (c_X11_whyOf_73 F rec6 C hh hrec6 σ l1 l2 l3 l4 l5 l6 1)
def f_X11_whyOf (F : Nat) (σ : zMem) (a1 : Int32) (a2 : Int32) (a3 : Int32) (a4 : Int32) : Option (Int32 × zMem) := zit (f_X11_whyOf_6 F) F σ ((a1, a2, a3, a4, (-1), 0))
set_option maxHeartbeats 4000000 in
set_option maxRecDepth 100000 in
theorem c_X11_whyOf (l : Launch) (Z : zLay) (F : Nat) (σ : zMem) (a1 : Int32) (a2 : Int32) (a3 : Int32) (a4 : Int32) (r : Int32) (σ1 : zMem) (ho : f_X11_whyOf F σ a1 a2 a3 a4 = some (r, σ1)) : zMet l yX11_whyOf cX11_whyOf 8 (some .int) 4 Z [.ref (zad Z 60 0), .int (a1), .int (a2), .int (a3), .int (a4)] σ (zQI Z r σ1) := by
  refine zMet_of (Qc := zQI Z) (by decide) (Nat.le_of_ble_eq_true rfl) [(0, .ref (zad Z 60 0)), (1, .int (a1)), (2, .int (a2)), (3, .int (a3)), (4, .int (a4))] rfl (fun E C => ?_) ho
  have hh : 4 ≤ 4 := Nat.le_refl _
  show zKO E 8 Z (zMQ E Z (zQI Z)) 0 [(0, .ref (zad Z 60 0)), (1, .int (a1)), (2, .int (a2)), (3, .int (a3)), (4, .int (a4))] [] σ _
  unfold f_X11_whyOf
  refine zr_iconst (v := -1) C dX11_whyOf_0 rfl ?_
  refine zr_istore (i := 5) (L1 := [(5, .int _), (0, .ref _), (1, .int _), (2, .int _), (3, .int _), (4, .int _)]) C dX11_whyOf_1 (by decide) rfl ?_
  refine zr_iconst (v := 0) C dX11_whyOf_3 rfl ?_
  refine zr_istore (i := 6) (L1 := [(6, .int _), (5, .int _), (0, .ref _), (1, .int _), (2, .int _), (3, .int _), (4, .int _)]) C dX11_whyOf_4 (by decide) rfl ?_
  exact zr_sub [2, 3, 4, 5, 6, 1, 0] rfl (c_X11_whyOf_6 F C hh F σ ((a1, a2, a3, a4, (-1), 0)))
theorem zk_X11_332 (C : zCx E cc RX11 nL ret Z h) (F : Nat) {b0 : Int32} {b1 : Int32} {b2 : Int32} {b3 : Int32} (hk : 0 < zN 60) (hh : 4 + 1 ≤ h) (hst8 : (st.map fun v => v.category).sum ≤ 8) (hd : decode cc pc = .ok (.invokevirtual 332, 3)) {g : Int32 → zMem → Option (α × zMem)} (kk : ∀ (r : Int32) (σ1 : zMem), zKO E nL Z QQ (pc + 3) L (.int r :: st) σ1 (g r σ1)) : zKO E nL Z QQ pc L (.int b3 :: .int b2 :: .int b1 :: .int b0 :: .ref (zad Z 60 0) :: st) σ (zb (f_X11_whyOf F σ b0 b1 b2 b3) g) :=
  zr_callVI (As := [.int b0, .int b1, .int b2, .int b3]) (ia := 4) C (fun r σ1 ho => c_X11_whyOf (zla E) Z F σ b0 b1 b2 b3 r σ1 ho) wz_1462 hk rfl rfl wz_p99 wz_1464 wz_1465 wz_12 (by decide +kernel) rfl (by decide) hh hd hst8 kk
def f_X11_valueOf (F : Nat) (σ : zMem) (a1 : Int32) (a2 : Int32) (a3 : Int32) (a4 : Int32) : Option (Int32 × zMem) := zb (f_X11_whyOf F σ a1 a2 a3 a4) fun r6 m6 => if 0 ≤ r6 then (zg (inb r6 41) (zg (inb 1 6) (some ((m6.1 80 r6.toNatClampNeg 1), m6)))) else (zg (inb a2 8) (some ((([30, 4, 150, 270, 2, 5, 3, 1] : List Int32).getD a2.toNatClampNeg 0), m6)))
set_option maxHeartbeats 4000000 in
set_option maxRecDepth 100000 in
theorem c_X11_valueOf (l : Launch) (Z : zLay) (F : Nat) (σ : zMem) (a1 : Int32) (a2 : Int32) (a3 : Int32) (a4 : Int32) (r : Int32) (σ1 : zMem) (ho : f_X11_valueOf F σ a1 a2 a3 a4 = some (r, σ1)) : zMet l yX11_valueOf cX11_valueOf 6 (some .int) 5 Z [.ref (zad Z 60 0), .int (a1), .int (a2), .int (a3), .int (a4)] σ (zQI Z r σ1) := by
  refine zMet_of (Qc := zQI Z) (by decide) (Nat.le_of_ble_eq_true rfl) [(0, .ref (zad Z 60 0)), (1, .int (a1)), (2, .int (a2)), (3, .int (a3)), (4, .int (a4))] rfl (fun E C => ?_) ho
  have hh : 5 ≤ 5 := Nat.le_refl _
  show zKO E 6 Z (zMQ E Z (zQI Z)) 0 [(0, .ref (zad Z 60 0)), (1, .int (a1)), (2, .int (a2)), (3, .int (a3)), (4, .int (a4))] [] σ _
  unfold f_X11_valueOf
  refine zr_aload_n C dX11_valueOf_0 rfl ?_
  refine zr_iload_n C dX11_valueOf_1 rfl ?_
  refine zr_iload_n C dX11_valueOf_2 rfl ?_
  refine zr_iload_n C dX11_valueOf_3 rfl ?_
  refine zr_iload C dX11_valueOf_4 rfl ?_
  refine zk_X11_332 C F (Nat.le_of_ble_eq_true rfl) (Nat.le_trans (by decide) hh) (by simp [Value.category]) dX11_valueOf_6 (fun r6 m6 => ?_)
  refine zr_istore (i := 5) (L1 := [(5, .int _), (0, .ref _), (1, .int _), (2, .int _), (3, .int _), (4, .int _)]) C dX11_valueOf_9 (by decide) rfl ?_
  refine zr_iload C dX11_valueOf_11 rfl ?_
  refine zr_if_ge (tgt := 24) C dX11_valueOf_13 (by decide) ?_ ?_
  · refine zr_aload_n C dX11_valueOf_24 rfl ?_
    refine zf_X11_60 C (Nat.le_of_ble_eq_true rfl) dX11_valueOf_25 ?_
    refine zr_iload C dX11_valueOf_28 rfl ?_
    refine zr_aald (n := 41) (k1 := 80) C dX11_valueOf_30 (Nat.le_of_ble_eq_true rfl) rfl rfl rfl (fun hb30 => ?_)
    refine zr_iconst (v := 1) C dX11_valueOf_31 rfl ?_
    refine zr_iald (n := 6) C dX11_valueOf_32 hb30 rfl ?_
    exact zr_iret C dX11_valueOf_33
  · refine zr_gets C ("AlpCommuneModel", "USUAL", 158, [30, 4, 150, 270, 2, 5, 3, 1]) (by decide +kernel) wz_1478 dX11_valueOf_16 ?_
    refine zr_iload_n C dX11_valueOf_19 rfl ?_
    refine zr_ialdS C ("AlpCommuneModel", "USUAL", 158, [30, 4, 150, 270, 2, 5, 3, 1]) (by decide +kernel) dX11_valueOf_20 ?_
    refine zr_goto (tgt := 33) C dX11_valueOf_21 (by decide) ?_
    exact zr_iret C dX11_valueOf_33
theorem zk_X11_339 (C : zCx E cc RX11 nL ret Z h) (F : Nat) {b0 : Int32} {b1 : Int32} {b2 : Int32} {b3 : Int32} (hk : 0 < zN 60) (hh : 5 + 1 ≤ h) (hst8 : (st.map fun v => v.category).sum ≤ 8) (hd : decode cc pc = .ok (.invokevirtual 339, 3)) {g : Int32 → zMem → Option (α × zMem)} (kk : ∀ (r : Int32) (σ1 : zMem), zKO E nL Z QQ (pc + 3) L (.int r :: st) σ1 (g r σ1)) : zKO E nL Z QQ pc L (.int b3 :: .int b2 :: .int b1 :: .int b0 :: .ref (zad Z 60 0) :: st) σ (zb (f_X11_valueOf F σ b0 b1 b2 b3) g) :=
  zr_callVI (As := [.int b0, .int b1, .int b2, .int b3]) (ia := 4) C (fun r σ1 ho => c_X11_valueOf (zla E) Z F σ b0 b1 b2 b3 r σ1 ho) wz_1458 hk rfl rfl wz_p98 wz_1460 wz_1461 wz_12 (by decide +kernel) rfl (by decide) hh hd hst8 kk
def f_X11_now (F : Nat) (σ : zMem) (a1 : Int32) (a2 : Int32) : Option (Int32 × zMem) := zb (f_X11_valueOf F σ a1 a2 ((σ.1 60 0 0)) ((σ.1 60 0 0))) fun r11 m11 => some (r11, m11)
set_option maxHeartbeats 4000000 in
set_option maxRecDepth 100000 in
theorem c_X11_now (l : Launch) (Z : zLay) (F : Nat) (σ : zMem) (a1 : Int32) (a2 : Int32) (r : Int32) (σ1 : zMem) (ho : f_X11_now F σ a1 a2 = some (r, σ1)) : zMet l yX11_now cX11_now 3 (some .int) 6 Z [.ref (zad Z 60 0), .int (a1), .int (a2)] σ (zQI Z r σ1) := by
  refine zMet_of (Qc := zQI Z) (by decide) (Nat.le_of_ble_eq_true rfl) [(0, .ref (zad Z 60 0)), (1, .int (a1)), (2, .int (a2))] rfl (fun E C => ?_) ho
  have hh : 6 ≤ 6 := Nat.le_refl _
  show zKO E 3 Z (zMQ E Z (zQI Z)) 0 [(0, .ref (zad Z 60 0)), (1, .int (a1)), (2, .int (a2))] [] σ _
  unfold f_X11_now
  refine zr_aload_n C dX11_now_0 rfl ?_
  refine zr_iload_n C dX11_now_1 rfl ?_
  refine zr_iload_n C dX11_now_2 rfl ?_
  refine zr_aload_n C dX11_now_3 rfl ?_
  refine zf_X11_193 C (Nat.le_of_ble_eq_true rfl) dX11_now_4 ?_
  refine zr_aload_n C dX11_now_7 rfl ?_
  refine zf_X11_193 C (Nat.le_of_ble_eq_true rfl) dX11_now_8 ?_
  refine zk_X11_339 C F (Nat.le_of_ble_eq_true rfl) (Nat.le_trans (by decide) hh) (by simp [Value.category]) dX11_now_11 (fun r11 m11 => ?_)
  exact zr_iret C dX11_now_14
theorem zk_X11_366 (C : zCx E cc RX11 nL ret Z h) (F : Nat) {b0 : Int32} {b1 : Int32} (hk : 0 < zN 60) (hh : 6 + 1 ≤ h) (hst8 : (st.map fun v => v.category).sum ≤ 8) (hd : decode cc pc = .ok (.invokevirtual 366, 3)) {g : Int32 → zMem → Option (α × zMem)} (kk : ∀ (r : Int32) (σ1 : zMem), zKO E nL Z QQ (pc + 3) L (.int r :: st) σ1 (g r σ1)) : zKO E nL Z QQ pc L (.int b1 :: .int b0 :: .ref (zad Z 60 0) :: st) σ (zb (f_X11_now F σ b0 b1) g) :=
  zr_callVI (As := [.int b0, .int b1]) (ia := 2) C (fun r σ1 ho => c_X11_now (zla E) Z F σ b0 b1 r σ1 ho) wz_1527 hk rfl rfl wz_p107 wz_1529 wz_1530 wz_12 (by decide +kernel) rfl (by decide) hh hd hst8 kk
def f_X11_voids_46 (F : Nat) (rec46 : zMem → Int32 × Int32 × Int32 → Option (Int32 × zMem)) (σ : zMem) (x : Int32 × Int32 × Int32) : Option (Int32 × zMem) := if (zmin ((σ.1 60 0 30)) 200) ≤ x.2.2 then (some (x.2.1, σ)) else (zg (inb x.2.2 200) (zg (inb 4 6) (if (σ.1 92 x.2.2.toNatClampNeg 4) = x.1 then (rec46 σ ((x.1, (x.2.1 + 1), (x.2.2 + 1)))) else (zg (inb x.2.2 200) (zg (inb 5 6) (if (σ.1 92 x.2.2.toNatClampNeg 5) = x.1 then (rec46 σ ((x.1, (x.2.1 + 1), (x.2.2 + 1)))) else (rec46 σ ((x.1, (x.2.1 + 0), (x.2.2 + 1))))))))))
set_option maxHeartbeats 4000000 in
set_option maxRecDepth 100000 in
theorem c_X11_voids_46 (F : Nat) {E : zEn} {h : Nat} {Z : zLay} (C : zCx E cX11_voids RX11 4 (some .int) Z h) (hh : 2 ≤ h) : ∀ (n : Nat) (σ : zMem) (x : Int32 × Int32 × Int32), zKO E 4 Z (zMQ E Z (zQI Z)) 46 [(0, .ref (zad Z 60 0)), (1, .int x.1), (2, .int x.2.1), (3, .int x.2.2)] [] σ (zit (f_X11_voids_46 F) n σ x) := by
  refine zr_loop (LL := fun (x : Int32 × Int32 × Int32) => [(0, .ref (zad Z 60 0)), (1, .int x.1), (2, .int x.2.1), (3, .int x.2.2)]) (ST := fun (x : Int32 × Int32 × Int32) => []) (fun rec46 hrec46 σ x => ?_)
  obtain ⟨l1, l2, l3⟩ := x
  show zKO E 4 Z (zMQ E Z (zQI Z)) 46 [(0, .ref (zad Z 60 0)), (1, .int l1), (2, .int l2), (3, .int l3)] [] σ (if (zmin ((σ.1 60 0 30)) 200) ≤ l3 then (some (l2, σ)) else (zg (inb l3 200) (zg (inb 4 6) (if (σ.1 92 l3.toNatClampNeg 4) = l1 then (rec46 σ ((l1, (l2 + 1), (l3 + 1)))) else (zg (inb l3 200) (zg (inb 5 6) (if (σ.1 92 l3.toNatClampNeg 5) = l1 then (rec46 σ ((l1, (l2 + 1), (l3 + 1)))) else (rec46 σ ((l1, (l2 + 0), (l3 + 1)))))))))))
  refine zr_iload_n C dX11_voids_46 rfl ?_
  refine zr_aload_n C dX11_voids_47 rfl ?_
  refine zf_X11_342 C (Nat.le_of_ble_eq_true rfl) dX11_voids_48 ?_
  refine zr_sipush (v := 200) C dX11_voids_51 rfl ?_
  refine zr_mmin C wz_1449 wz_796 wz_17 wz_797 (Nat.le_trans (by decide) hh) (by simp [Value.category]) dX11_voids_54 ?_
  refine zr_icmp_ge (tgt := 98) C dX11_voids_57 (by decide) ?_ ?_
  · refine zr_iload_n C dX11_voids_98 rfl ?_
    exact zr_iret C dX11_voids_99
  · refine zr_iload_n C dX11_voids_60 rfl ?_
    refine zr_aload_n C dX11_voids_61 rfl ?_
    refine zf_X11_86 C (Nat.le_of_ble_eq_true rfl) dX11_voids_62 ?_
    refine zr_iload_n C dX11_voids_65 rfl ?_
    refine zr_aald (n := 200) (k1 := 92) C dX11_voids_66 (Nat.le_of_ble_eq_true rfl) rfl rfl rfl (fun hb66 => ?_)
    refine zr_iconst (v := 4) C dX11_voids_67 rfl ?_
    refine zr_iald (n := 6) C dX11_voids_68 hb66 rfl ?_
    refine zr_iload_n C dX11_voids_69 rfl ?_
    refine zr_icmp_eq (tgt := 85) C dX11_voids_70 (by decide) ?_ ?_
    · refine zr_iconst (v := 1) C dX11_voids_85 rfl ?_
      refine zr_goto (tgt := 90) C dX11_voids_86 (by decide) ?_
      refine zr_iadd C dX11_voids_90 ?_
      refine zr_istore_n (i := 2) (L1 := [(2, .int _), (0, .ref _), (1, .int _), (3, .int _)]) C dX11_voids_91 rfl (by decide) rfl ?_
      refine zr_iinc (kk := 3) (v := (l3 + 1)) (L1 := [(3, .int _), (2, .int _), (0, .ref _), (1, .int _)]) C dX11_voids_92 rfl rfl (by decide) rfl ?_
      refine zr_goto (tgt := 46) C dX11_voids_95 (by decide) ?_
      exact zr_sub [2, 3, 1, 0] rfl (hrec46 σ ((l1, (l2 + 1), (l3 + 1))))
    · refine zr_aload_n C dX11_voids_73 rfl ?_
      refine zf_X11_86 C (Nat.le_of_ble_eq_true rfl) dX11_voids_74 ?_
      refine zr_iload_n C dX11_voids_77 rfl ?_
      refine zr_aald (n := 200) (k1 := 92) C dX11_voids_78 (Nat.le_of_ble_eq_true rfl) rfl rfl rfl (fun hb78 => ?_)
      refine zr_iconst (v := 5) C dX11_voids_79 rfl ?_
      refine zr_iald (n := 6) C dX11_voids_80 hb78 rfl ?_
      refine zr_iload_n C dX11_voids_81 rfl ?_
      refine zr_icmp_ne (tgt := 89) C dX11_voids_82 (by decide) ?_ ?_
      · refine zr_iconst (v := 0) C dX11_voids_89 rfl ?_
        refine zr_iadd C dX11_voids_90 ?_
        refine zr_istore_n (i := 2) (L1 := [(2, .int _), (0, .ref _), (1, .int _), (3, .int _)]) C dX11_voids_91 rfl (by decide) rfl ?_
        refine zr_iinc (kk := 3) (v := (l3 + 1)) (L1 := [(3, .int _), (2, .int _), (0, .ref _), (1, .int _)]) C dX11_voids_92 rfl rfl (by decide) rfl ?_
        refine zr_goto (tgt := 46) C dX11_voids_95 (by decide) ?_
        exact zr_sub [2, 3, 1, 0] rfl (hrec46 σ ((l1, (l2 + 0), (l3 + 1))))
      · refine zr_iconst (v := 1) C dX11_voids_85 rfl ?_
        refine zr_goto (tgt := 90) C dX11_voids_86 (by decide) ?_
        refine zr_iadd C dX11_voids_90 ?_
        refine zr_istore_n (i := 2) (L1 := [(2, .int _), (0, .ref _), (1, .int _), (3, .int _)]) C dX11_voids_91 rfl (by decide) rfl ?_
        refine zr_iinc (kk := 3) (v := (l3 + 1)) (L1 := [(3, .int _), (2, .int _), (0, .ref _), (1, .int _)]) C dX11_voids_92 rfl rfl (by decide) rfl ?_
        refine zr_goto (tgt := 46) C dX11_voids_95 (by decide) ?_
        exact zr_sub [2, 3, 1, 0] rfl (hrec46 σ ((l1, (l2 + 1), (l3 + 1))))
def f_X11_voids (F : Nat) (σ : zMem) (a1 : Int32) : Option (Int32 × zMem) := zb (f_X11_in F σ a1 0 (((σ.1 60 0 20) - 1))) fun r8 m8 => if r8 = 0 then (some ((-1), m8)) else (zg (inb a1 41) (zg (inb 5 6) (if (m8.1 80 a1.toNatClampNeg 5) < 0 then (zg (inb a1 41) (zg (inb 5 6) (zit (f_X11_voids_46 F) F (zwi m8 80 a1.toNatClampNeg 5 ((m8.1 60 0 0))) ((a1, 0, 0))))) else (some ((-3), m8)))))
set_option maxHeartbeats 4000000 in
set_option maxRecDepth 100000 in
theorem c_X11_voids (l : Launch) (Z : zLay) (F : Nat) (σ : zMem) (a1 : Int32) (r : Int32) (σ1 : zMem) (ho : f_X11_voids F σ a1 = some (r, σ1)) : zMet l yX11_voids cX11_voids 4 (some .int) 2 Z [.ref (zad Z 60 0), .int (a1)] σ (zQI Z r σ1) := by
  refine zMet_of (Qc := zQI Z) (by decide) (Nat.le_of_ble_eq_true rfl) [(0, .ref (zad Z 60 0)), (1, .int (a1))] rfl (fun E C => ?_) ho
  have hh : 2 ≤ 2 := Nat.le_refl _
  show zKO E 4 Z (zMQ E Z (zQI Z)) 0 [(0, .ref (zad Z 60 0)), (1, .int (a1))] [] σ _
  unfold f_X11_voids
  refine zr_iload_n C dX11_voids_0 rfl ?_
  refine zr_iconst (v := 0) C dX11_voids_1 rfl ?_
  refine zr_aload_n C dX11_voids_2 rfl ?_
  refine zf_X11_289 C (Nat.le_of_ble_eq_true rfl) dX11_voids_3 ?_
  refine zr_iconst (v := 1) C dX11_voids_6 rfl ?_
  refine zr_isub C dX11_voids_7 ?_
  refine zk_X11_163 C F (Nat.le_trans (by decide) hh) (by simp [Value.category]) dX11_voids_8 (fun r8 m8 => ?_)
  refine zr_if_ne (tgt := 16) C dX11_voids_11 (by decide) ?_ ?_
  · refine zr_aload_n C dX11_voids_16 rfl ?_
    refine zf_X11_60 C (Nat.le_of_ble_eq_true rfl) dX11_voids_17 ?_
    refine zr_iload_n C dX11_voids_20 rfl ?_
    refine zr_aald (n := 41) (k1 := 80) C dX11_voids_21 (Nat.le_of_ble_eq_true rfl) rfl rfl rfl (fun hb21 => ?_)
    refine zr_iconst (v := 5) C dX11_voids_22 rfl ?_
    refine zr_iald (n := 6) C dX11_voids_23 hb21 rfl ?_
    refine zr_if_lt (tgt := 30) C dX11_voids_24 (by decide) ?_ ?_
    · refine zr_aload_n C dX11_voids_30 rfl ?_
      refine zf_X11_60 C (Nat.le_of_ble_eq_true rfl) dX11_voids_31 ?_
      refine zr_iload_n C dX11_voids_34 rfl ?_
      refine zr_aald (n := 41) (k1 := 80) C dX11_voids_35 (Nat.le_of_ble_eq_true rfl) rfl rfl rfl (fun hb35 => ?_)
      refine zr_iconst (v := 5) C dX11_voids_36 rfl ?_
      refine zr_aload_n C dX11_voids_37 rfl ?_
      refine zf_X11_193 C (Nat.le_of_ble_eq_true rfl) dX11_voids_38 ?_
      refine zr_iast (n := 6) C dX11_voids_41 hb35 (fun _ _ => rfl) ?_
      refine zr_iconst (v := 0) C dX11_voids_42 rfl ?_
      refine zr_istore_n (i := 2) (L1 := [(2, .int _), (0, .ref _), (1, .int _)]) C dX11_voids_43 rfl (by decide) rfl ?_
      refine zr_iconst (v := 0) C dX11_voids_44 rfl ?_
      refine zr_istore_n (i := 3) (L1 := [(3, .int _), (2, .int _), (0, .ref _), (1, .int _)]) C dX11_voids_45 rfl (by decide) rfl ?_
      exact zr_sub [2, 3, 1, 0] rfl (c_X11_voids_46 F C hh F (zwi m8 80 a1.toNatClampNeg 5 ((m8.1 60 0 0))) ((a1, 0, 0)))
    · refine zr_bipush (v := -3) C dX11_voids_27 rfl ?_
      exact zr_iret C dX11_voids_29
  · refine zr_iconst (v := -1) C dX11_voids_14 rfl ?_
    exact zr_iret C dX11_voids_15
def f_X11_isAsked (F : Nat) (σ : zMem) (a1 : Int32) (a2 : Int32) (a3 : Int32) (a4 : Int32) : Option (Int32 × zMem) := zb (f_X11_isHouse F σ a1) fun r2 m2 => if r2 = 0 then (some (0, m2)) else (zb (f_X11_in F m2 a2 0 7) fun r12 m12 => if r12 = 0 then (some (0, m12)) else (if a3 < 0 then (some (0, m12)) else (if a4 < 0 then (some (0, m12)) else (some (1, m12)))))
set_option maxHeartbeats 4000000 in
set_option maxRecDepth 100000 in
theorem c_X11_isAsked (l : Launch) (Z : zLay) (F : Nat) (σ : zMem) (a1 : Int32) (a2 : Int32) (a3 : Int32) (a4 : Int32) (r : Int32) (σ1 : zMem) (ho : f_X11_isAsked F σ a1 a2 a3 a4 = some (r, σ1)) : zMet l yX11_isAsked cX11_isAsked 5 (some .boolean) 3 Z [.ref (zad Z 60 0), .int (a1), .int (a2), .int (a3), .int (a4)] σ (zQI Z r σ1) := by
  refine zMet_of (Qc := zQI Z) (by decide) (Nat.le_of_ble_eq_true rfl) [(0, .ref (zad Z 60 0)), (1, .int (a1)), (2, .int (a2)), (3, .int (a3)), (4, .int (a4))] rfl (fun E C => ?_) ho
  have hh : 3 ≤ 3 := Nat.le_refl _
  show zKO E 5 Z (zMQ E Z (zQI Z)) 0 [(0, .ref (zad Z 60 0)), (1, .int (a1)), (2, .int (a2)), (3, .int (a3)), (4, .int (a4))] [] σ _
  unfold f_X11_isAsked
  refine zr_aload_n C dX11_isAsked_0 rfl ?_
  refine zr_iload_n C dX11_isAsked_1 rfl ?_
  refine zk_X11_181 C F (Nat.le_of_ble_eq_true rfl) (Nat.le_trans (by decide) hh) (by simp [Value.category]) dX11_isAsked_2 (fun r2 m2 => ?_)
  refine zr_if_eq (tgt := 31) C dX11_isAsked_5 (by decide) ?_ ?_
  · refine zr_iconst (v := 0) C dX11_isAsked_31 rfl ?_
    exact zr_zret C dX11_isAsked_32 rfl
  · refine zr_iload_n C dX11_isAsked_8 rfl ?_
    refine zr_iconst (v := 0) C dX11_isAsked_9 rfl ?_
    refine zr_bipush (v := 7) C dX11_isAsked_10 rfl ?_
    refine zk_X11_163 C F (Nat.le_trans (by decide) hh) (by simp [Value.category]) dX11_isAsked_12 (fun r12 m12 => ?_)
    refine zr_if_eq (tgt := 31) C dX11_isAsked_15 (by decide) ?_ ?_
    · refine zr_iconst (v := 0) C dX11_isAsked_31 rfl ?_
      exact zr_zret C dX11_isAsked_32 rfl
    · refine zr_iload_n C dX11_isAsked_18 rfl ?_
      refine zr_if_lt (tgt := 31) C dX11_isAsked_19 (by decide) ?_ ?_
      · refine zr_iconst (v := 0) C dX11_isAsked_31 rfl ?_
        exact zr_zret C dX11_isAsked_32 rfl
      · refine zr_iload C dX11_isAsked_22 rfl ?_
        refine zr_if_lt (tgt := 31) C dX11_isAsked_24 (by decide) ?_ ?_
        · refine zr_iconst (v := 0) C dX11_isAsked_31 rfl ?_
          exact zr_zret C dX11_isAsked_32 rfl
        · refine zr_iconst (v := 1) C dX11_isAsked_27 rfl ?_
          refine zr_goto (tgt := 32) C dX11_isAsked_28 (by decide) ?_
          exact zr_zret C dX11_isAsked_32 rfl
theorem zk_X11_350 (C : zCx E cc RX11 nL ret Z h) (F : Nat) {b0 : Int32} {b1 : Int32} {b2 : Int32} {b3 : Int32} (hk : 0 < zN 60) (hh : 3 + 1 ≤ h) (hst8 : (st.map fun v => v.category).sum ≤ 8) (hd : decode cc pc = .ok (.invokevirtual 350, 3)) {g : Int32 → zMem → Option (α × zMem)} (kk : ∀ (r : Int32) (σ1 : zMem), zKO E nL Z QQ (pc + 3) L (.int r :: st) σ1 (g r σ1)) : zKO E nL Z QQ pc L (.int b3 :: .int b2 :: .int b1 :: .int b0 :: .ref (zad Z 60 0) :: st) σ (zb (f_X11_isAsked F σ b0 b1 b2 b3) g) :=
  zr_callVI (As := [.int b0, .int b1, .int b2, .int b3]) (ia := 4) C (fun r σ1 ho => c_X11_isAsked (zla E) Z F σ b0 b1 b2 b3 r σ1 ho) wz_1454 hk rfl rfl wz_p97 wz_1456 wz_1457 wz_12 (by decide +kernel) rfl (by decide) hh hd hst8 kk
def f_X11_value (F : Nat) (σ : zMem) (a1 : Int32) (a2 : Int32) (a3 : Int32) (a4 : Int32) : Option (Int32 × zMem) := zb (f_X11_isAsked F σ a1 a2 a3 a4) fun r6 m6 => if r6 = 0 then (some ((-5), m6)) else (zb (f_X11_valueOf F m6 a1 a2 a3 a4) fun r18 m18 => some (r18, m18))
set_option maxHeartbeats 4000000 in
set_option maxRecDepth 100000 in
theorem c_X11_value (l : Launch) (Z : zLay) (F : Nat) (σ : zMem) (a1 : Int32) (a2 : Int32) (a3 : Int32) (a4 : Int32) (r : Int32) (σ1 : zMem) (ho : f_X11_value F σ a1 a2 a3 a4 = some (r, σ1)) : zMet l yX11_value cX11_value 5 (some .int) 6 Z [.ref (zad Z 60 0), .int (a1), .int (a2), .int (a3), .int (a4)] σ (zQI Z r σ1) := by
  refine zMet_of (Qc := zQI Z) (by decide) (Nat.le_of_ble_eq_true rfl) [(0, .ref (zad Z 60 0)), (1, .int (a1)), (2, .int (a2)), (3, .int (a3)), (4, .int (a4))] rfl (fun E C => ?_) ho
  have hh : 6 ≤ 6 := Nat.le_refl _
  show zKO E 5 Z (zMQ E Z (zQI Z)) 0 [(0, .ref (zad Z 60 0)), (1, .int (a1)), (2, .int (a2)), (3, .int (a3)), (4, .int (a4))] [] σ _
  unfold f_X11_value
  refine zr_aload_n C dX11_value_0 rfl ?_
  refine zr_iload_n C dX11_value_1 rfl ?_
  refine zr_iload_n C dX11_value_2 rfl ?_
  refine zr_iload_n C dX11_value_3 rfl ?_
  refine zr_iload C dX11_value_4 rfl ?_
  refine zk_X11_350 C F (Nat.le_of_ble_eq_true rfl) (Nat.le_trans (by decide) hh) (by simp [Value.category]) dX11_value_6 (fun r6 m6 => ?_)
  refine zr_if_eq (tgt := 24) C dX11_value_9 (by decide) ?_ ?_
  · refine zr_bipush (v := -5) C dX11_value_24 rfl ?_
    exact zr_iret C dX11_value_26
  · refine zr_aload_n C dX11_value_12 rfl ?_
    refine zr_iload_n C dX11_value_13 rfl ?_
    refine zr_iload_n C dX11_value_14 rfl ?_
    refine zr_iload_n C dX11_value_15 rfl ?_
    refine zr_iload C dX11_value_16 rfl ?_
    refine zk_X11_339 C F (Nat.le_of_ble_eq_true rfl) (Nat.le_trans (by decide) hh) (by simp [Value.category]) dX11_value_18 (fun r18 m18 => ?_)
    refine zr_goto (tgt := 26) C dX11_value_21 (by decide) ?_
    exact zr_iret C dX11_value_26
def f_X11_why (F : Nat) (σ : zMem) (a1 : Int32) (a2 : Int32) (a3 : Int32) (a4 : Int32) : Option (Int32 × zMem) := zb (f_X11_isAsked F σ a1 a2 a3 a4) fun r6 m6 => if r6 = 0 then (some ((-5), m6)) else (zb (f_X11_whyOf F m6 a1 a2 a3 a4) fun r18 m18 => some (r18, m18))
set_option maxHeartbeats 4000000 in
set_option maxRecDepth 100000 in
theorem c_X11_why (l : Launch) (Z : zLay) (F : Nat) (σ : zMem) (a1 : Int32) (a2 : Int32) (a3 : Int32) (a4 : Int32) (r : Int32) (σ1 : zMem) (ho : f_X11_why F σ a1 a2 a3 a4 = some (r, σ1)) : zMet l yX11_why cX11_why 5 (some .int) 5 Z [.ref (zad Z 60 0), .int (a1), .int (a2), .int (a3), .int (a4)] σ (zQI Z r σ1) := by
  refine zMet_of (Qc := zQI Z) (by decide) (Nat.le_of_ble_eq_true rfl) [(0, .ref (zad Z 60 0)), (1, .int (a1)), (2, .int (a2)), (3, .int (a3)), (4, .int (a4))] rfl (fun E C => ?_) ho
  have hh : 5 ≤ 5 := Nat.le_refl _
  show zKO E 5 Z (zMQ E Z (zQI Z)) 0 [(0, .ref (zad Z 60 0)), (1, .int (a1)), (2, .int (a2)), (3, .int (a3)), (4, .int (a4))] [] σ _
  unfold f_X11_why
  refine zr_aload_n C dX11_why_0 rfl ?_
  refine zr_iload_n C dX11_why_1 rfl ?_
  refine zr_iload_n C dX11_why_2 rfl ?_
  refine zr_iload_n C dX11_why_3 rfl ?_
  refine zr_iload C dX11_why_4 rfl ?_
  refine zk_X11_350 C F (Nat.le_of_ble_eq_true rfl) (Nat.le_trans (by decide) hh) (by simp [Value.category]) dX11_why_6 (fun r6 m6 => ?_)
  refine zr_if_eq (tgt := 24) C dX11_why_9 (by decide) ?_ ?_
  · refine zr_bipush (v := -5) C dX11_why_24 rfl ?_
    exact zr_iret C dX11_why_26
  · refine zr_aload_n C dX11_why_12 rfl ?_
    refine zr_iload_n C dX11_why_13 rfl ?_
    refine zr_iload_n C dX11_why_14 rfl ?_
    refine zr_iload_n C dX11_why_15 rfl ?_
    refine zr_iload C dX11_why_16 rfl ?_
    refine zk_X11_332 C F (Nat.le_of_ble_eq_true rfl) (Nat.le_trans (by decide) hh) (by simp [Value.category]) dX11_why_18 (fun r18 m18 => ?_)
    refine zr_goto (tgt := 26) C dX11_why_21 (by decide) ?_
    exact zr_iret C dX11_why_26
def f_X11_isSky (F : Nat) (σ : zMem) (a0 : Int32) (a1 : Int32) : Option (Int32 × zMem) := if a0 = 0 then (zb (f_X11_in F σ a1 ((-40)) 40) fun r9 m9 => zg (zbo r9) (some (r9, m9))) else (zb (f_X11_in F σ a1 0 200) fun r20 m20 => zg (zbo r20) (some (r20, m20)))
set_option maxHeartbeats 4000000 in
set_option maxRecDepth 100000 in
theorem c_X11_isSky (l : Launch) (Z : zLay) (F : Nat) (σ : zMem) (a0 : Int32) (a1 : Int32) (r : Int32) (σ1 : zMem) (ho : f_X11_isSky F σ a0 a1 = some (r, σ1)) : zMet l yX11_isSky cX11_isSky 2 (some .boolean) 2 Z [.int (a0), .int (a1)] σ (zQI Z r σ1) := by
  refine zMet_of (Qc := zQI Z) (by decide) (Nat.le_of_ble_eq_true rfl) [(0, .int (a0)), (1, .int (a1))] rfl (fun E C => ?_) ho
  have hh : 2 ≤ 2 := Nat.le_refl _
  show zKO E 2 Z (zMQ E Z (zQI Z)) 0 [(0, .int (a0)), (1, .int (a1))] [] σ _
  unfold f_X11_isSky
  refine zr_iload_n C dX11_isSky_0 rfl ?_
  refine zr_if_ne (tgt := 15) C dX11_isSky_1 (by decide) ?_ ?_
  · refine zr_iload_n C dX11_isSky_15 rfl ?_
    refine zr_iconst (v := 0) C dX11_isSky_16 rfl ?_
    refine zr_sipush (v := 200) C dX11_isSky_17 rfl ?_
    refine zk_X11_163 C F (Nat.le_trans (by decide) hh) (by simp [Value.category]) dX11_isSky_20 (fun r20 m20 => ?_)
    exact zr_zretg C dX11_isSky_23
  · refine zr_iload_n C dX11_isSky_4 rfl ?_
    refine zr_bipush (v := -40) C dX11_isSky_5 rfl ?_
    refine zr_bipush (v := 40) C dX11_isSky_7 rfl ?_
    refine zk_X11_163 C F (Nat.le_trans (by decide) hh) (by simp [Value.category]) dX11_isSky_9 (fun r9 m9 => ?_)
    refine zr_goto (tgt := 23) C dX11_isSky_12 (by decide) ?_
    exact zr_zretg C dX11_isSky_23
theorem zk_X11_354 (C : zCx E cc RX11 nL ret Z h) (F : Nat) {b0 : Int32} {b1 : Int32} (hh : 2 + 1 ≤ h) (hst8 : (st.map fun v => v.category).sum ≤ 8) (hd : decode cc pc = .ok (.invokestatic 354, 3)) {g : Int32 → zMem → Option (α × zMem)} (kk : ∀ (r : Int32) (σ1 : zMem), zKO E nL Z QQ (pc + 3) L (.int r :: st) σ1 (g r σ1)) : zKO E nL Z QQ pc L (.int b1 :: .int b0 :: st) σ (zb (f_X11_isSky F σ b0 b1) g) :=
  zr_callSI (As := [.int b0, .int b1]) (ia := 2) C (fun r σ1 ho => c_X11_isSky (zla E) Z F σ b0 b1 r σ1 ho) wz_1488 wz_1489 wz_1490 wz_12 (by decide +kernel) rfl (by decide) hh hd hst8 kk
end ZM
