section
variable {d : Nat} {st : List Value} {h : mx_H} {x y x0 x1 x2 x3 x4 x5 x6 x7 : Int32} {u w u0 u1 u2 u3 u4 u5 u6 u7 : Int64} {a b : Nat} {v v0 v1 v2 v3 v4 v5 v6 v7 : Value} {l0 l1 l2 l3 l4 l5 l6 l7 l8 l9 l10 l11 : Option Value}
/-! 7: java/util/ArrayList.<init>()V -/
theorem g7_0 (hv : mx_isr v = true) : mx_G d 7 0 [some v] st h = mx_G d 7 1 [some v] (v :: st) h := mx_g_aload_n (show mt_at 7 0 = some (.aload_n 0) by decide +kernel) rfl hv
theorem g7_1 (ht : mx_tag h a = some (.inl 3)) (hw : mx_wt st ≤ 8) : mx_G (d + 1) 7 1 [l0] (.ref a :: st) h = (mx_G d 8 0 [some (.ref a)] [] h).bind fun q => mx_G (d + 1) 7 4 [l0] (q.1.toList ++ st) q.2 := mx_g_callA (as := [.ref a]) (rest := st) (Lj := [some (.ref a)]) (show mt_at 7 1 = some (.invokespecial 1) by decide +kernel) rfl (mx_tgtP (show mt_row mt_SC 7 1 = some (8, 2) by decide +kernel) (by decide) rfl ht (by decide)) (show mt_np 8 = 1 by decide +kernel) hw (by simp [mx_sl, mx_cat_int, mx_cat_ref, mx_cat_long]) (show 1 ≤ mt_mL 8 by decide +kernel)
theorem g7_4 (hv : mx_isr v = true) : mx_G d 7 4 [some v] st h = mx_G d 7 5 [some v] (v :: st) h := mx_g_aload_n (show mt_at 7 4 = some (.aload_n 0) by decide +kernel) rfl hv
theorem g7_5 : mx_G d 7 5 [l0] st h = mx_G d 7 8 [l0] (.ref 2 :: st) h := mx_g_gets (show mt_at 7 5 = some (.getstatic 39) by decide +kernel) (by decide +kernel)
theorem g7_8 (hv : mx_isr v = true) (ht : mx_tag h a = some (.inl 3)) (ha : mt_nO ≤ a) : mx_G d 7 8 [l0] (v :: .ref a :: st) h = mx_G d 7 11 [l0] st (mx_up h a 0 v) := mx_g_putr (fid := 19) (show mt_at 7 8 = some (.putfield 9) by decide +kernel) (by decide +kernel) (by decide +kernel) (by decide +kernel) (by decide +kernel) hv ht ha
theorem g7_11 : mx_G d 7 11 [l0] [] h = some (none, h) := mx_g_return (show mt_at 7 11 = some (.return_) by decide +kernel) (by decide +kernel)
/-! 8: java/util/AbstractList.<init>()V -/
theorem g8_0 (hv : mx_isr v = true) : mx_G d 8 0 [some v] st h = mx_G d 8 1 [some v] (v :: st) h := mx_g_aload_n (show mt_at 8 0 = some (.aload_n 0) by decide +kernel) rfl hv
theorem g8_1 (ht : mx_tag h a = some (.inl 3)) (hw : mx_wt st ≤ 8) : mx_G (d + 1) 8 1 [l0] (.ref a :: st) h = (mx_G d 9 0 [some (.ref a)] [] h).bind fun q => mx_G (d + 1) 8 4 [l0] (q.1.toList ++ st) q.2 := mx_g_callA (as := [.ref a]) (rest := st) (Lj := [some (.ref a)]) (show mt_at 8 1 = some (.invokespecial 1) by decide +kernel) rfl (mx_tgtP (show mt_row mt_SC 8 1 = some (9, 2) by decide +kernel) (by decide) rfl ht (by decide)) (show mt_np 9 = 1 by decide +kernel) hw (by simp [mx_sl, mx_cat_int, mx_cat_ref, mx_cat_long]) (show 1 ≤ mt_mL 9 by decide +kernel)
theorem g8_4 (hv : mx_isr v = true) : mx_G d 8 4 [some v] st h = mx_G d 8 5 [some v] (v :: st) h := mx_g_aload_n (show mt_at 8 4 = some (.aload_n 0) by decide +kernel) rfl hv
theorem g8_5 : mx_G d 8 5 [l0] st h = mx_G d 8 6 [l0] (.int 0 :: st) h := mx_g_iconst (show mt_at 8 5 = some (.iconst 0) by decide +kernel) (by decide)
theorem g8_6 (ht : mx_tag h a = some (.inl 3)) (ha : mt_nO ≤ a) : mx_G d 8 6 [l0] (.int x :: .ref a :: st) h = mx_G d 8 9 [l0] st (mx_up h a 2 (.int x)) := mx_g_put (fid := 21) (show mt_at 8 6 = some (.putfield 7) by decide +kernel) (by decide +kernel) (by decide +kernel) (by decide +kernel) ht ha rfl rfl
theorem g8_9 : mx_G d 8 9 [l0] [] h = some (none, h) := mx_g_return (show mt_at 8 9 = some (.return_) by decide +kernel) (by decide +kernel)
/-! 9: java/util/AbstractCollection.<init>()V -/
theorem g9_0 (hv : mx_isr v = true) : mx_G d 9 0 [some v] st h = mx_G d 9 1 [some v] (v :: st) h := mx_g_aload_n (show mt_at 9 0 = some (.aload_n 0) by decide +kernel) rfl hv
theorem g9_1 (hw : mx_wt st ≤ 8) : mx_G (d + 1) 9 1 [l0] (.ref a :: st) h = mx_G (d + 1) 9 4 [l0] st h := mx_g_oi (show mt_at 9 1 = some (.invokespecial 1) by decide +kernel) (by decide +kernel) (by decide +kernel) hw
theorem g9_4 : mx_G d 9 4 [l0] [] h = some (none, h) := mx_g_return (show mt_at 9 4 = some (.return_) by decide +kernel) (by decide +kernel)
end
