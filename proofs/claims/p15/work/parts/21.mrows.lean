section RWM
variable {p : Program} {l : Launch} {e : Env} {R : Room} {s : State} {m : MethodId} {args : Array Value} {below : List Frame} {meth : Method} {c : Code} {H : Heap} {locs : List Loc} {cells slots : Nat} {Q : State → Prop} {cc : ByteArray} {pc : Nat} {ls : Array Slot} {rest : List Value} {D : va_G} {A : Nat → Prop} {H0 : Heap} {ad : Nat → Nat} {ka : Nat → ClassId} {t : Mem} {c0 : Cond} {idx : Nat}
theorem g_M_thrown (hx : p.tables.exec = Jvm.exec) (hb : c.code = cc) (hts : ∀ w ∈ c0 :: big, w.before args s = true) (hown : s.vm.findClass "ListForgeModel" = some m.cls) (hK : va_K D clm (mT ka) s) (hP : va_P D clm (mw ad ka t) H) (hlink : Cond.fieldLink "ListForgeModel" idx "ListForgeModel" "thrown" "I" ∈ big) (hdg : decode cc pc = .ok (.getfield idx, 3)) (kk : W p l e R s m args below meth c H locs cells slots Q (F0 m (pc + 3) ls (.int (gI t 0 0) :: rest))) : W p l e R s m args below meth c H locs cells slots Q (F0 m pc ls (.ref (ad 0) :: rest)) :=
  va_get (D := D) (ci := 0) (C := "ListForgeModel") (T := T_M) (N := 31) hx hb hts in_M hown hK hP 0 at_M rfl 0 (by decide) (bg hts hlink) (fun _ h9 => h9) rfl hdg kk
theorem p_M_thrown (hx : p.tables.exec = Jvm.exec) (hb : c.code = cc) (hts : ∀ w ∈ c0 :: big, w.before args s = true) (hown : s.vm.findClass "ListForgeModel" = some m.cls) (hK : va_K D clm (mT ka) s) (hP : va_P D clm (mw ad ka t) H) (hD : va_D A (mw ad ka t)) (hS : va_S A H0 H locs) {v : Int32} (hlink : Cond.fieldLink "ListForgeModel" idx "ListForgeModel" "thrown" "I" ∈ big) (hdg : decode cc pc = .ok (.putfield idx, 3)) (kk : ∀ (H1 : Heap) (locs1 : List Loc), va_P D clm (mw ad ka (pI t 0 0 v)) H1 → va_D A (mw ad ka (pI t 0 0 v)) → va_S A H0 H1 locs1 → W p l e R s m args below meth c H1 locs1 cells slots Q (F0 m (pc + 3) ls rest)) : W p l e R s m args below meth c H locs cells slots Q (F0 m pc ls (.int v :: .ref (ad 0) :: rest)) :=
  va_put (D := D) (ci := 0) (ty := .int) (C := "ListForgeModel") (T := T_M) (N := 31) hx hb hts in_M t_M t_M_ok n_M hown hK hP hD hS 0 at_M rfl 0 (by decide) (bg hts hlink) (fun _ h9 => h9) rfl (by decide +kernel) rfl rfl (Nat.le_of_ble_eq_true rfl) hdg (fun H1 locs1 h1 h2 h3 => kk H1 locs1 (s_M_thrown ▸ h1) (s_M_thrown ▸ h2) h3)
theorem g_M_today (hx : p.tables.exec = Jvm.exec) (hb : c.code = cc) (hts : ∀ w ∈ c0 :: big, w.before args s = true) (hown : s.vm.findClass "ListForgeModel" = some m.cls) (hK : va_K D clm (mT ka) s) (hP : va_P D clm (mw ad ka t) H) (hlink : Cond.fieldLink "ListForgeModel" idx "ListForgeModel" "today" "I" ∈ big) (hdg : decode cc pc = .ok (.getfield idx, 3)) (kk : W p l e R s m args below meth c H locs cells slots Q (F0 m (pc + 3) ls (.int (gI t 1 0) :: rest))) : W p l e R s m args below meth c H locs cells slots Q (F0 m pc ls (.ref (ad 0) :: rest)) :=
  va_get (D := D) (ci := 0) (C := "ListForgeModel") (T := T_M) (N := 31) hx hb hts in_M hown hK hP 0 at_M rfl 1 (by decide) (bg hts hlink) (fun _ h9 => h9) rfl hdg kk
theorem p_M_today (hx : p.tables.exec = Jvm.exec) (hb : c.code = cc) (hts : ∀ w ∈ c0 :: big, w.before args s = true) (hown : s.vm.findClass "ListForgeModel" = some m.cls) (hK : va_K D clm (mT ka) s) (hP : va_P D clm (mw ad ka t) H) (hD : va_D A (mw ad ka t)) (hS : va_S A H0 H locs) {v : Int32} (hlink : Cond.fieldLink "ListForgeModel" idx "ListForgeModel" "today" "I" ∈ big) (hdg : decode cc pc = .ok (.putfield idx, 3)) (kk : ∀ (H1 : Heap) (locs1 : List Loc), va_P D clm (mw ad ka (pI t 1 0 v)) H1 → va_D A (mw ad ka (pI t 1 0 v)) → va_S A H0 H1 locs1 → W p l e R s m args below meth c H1 locs1 cells slots Q (F0 m (pc + 3) ls rest)) : W p l e R s m args below meth c H locs cells slots Q (F0 m pc ls (.int v :: .ref (ad 0) :: rest)) :=
  va_put (D := D) (ci := 0) (ty := .int) (C := "ListForgeModel") (T := T_M) (N := 31) hx hb hts in_M t_M t_M_ok n_M hown hK hP hD hS 0 at_M rfl 1 (by decide) (bg hts hlink) (fun _ h9 => h9) rfl (by decide +kernel) rfl rfl (Nat.le_of_ble_eq_true rfl) hdg (fun H1 locs1 h1 h2 h3 => kk H1 locs1 (s_M_today ▸ h1) (s_M_today ▸ h2) h3)
theorem g_M_asked (hx : p.tables.exec = Jvm.exec) (hb : c.code = cc) (hts : ∀ w ∈ c0 :: big, w.before args s = true) (hown : s.vm.findClass "ListForgeModel" = some m.cls) (hK : va_K D clm (mT ka) s) (hP : va_P D clm (mw ad ka t) H) (hlink : Cond.fieldLink "ListForgeModel" idx "ListForgeModel" "asked" "I" ∈ big) (hdg : decode cc pc = .ok (.getfield idx, 3)) (kk : W p l e R s m args below meth c H locs cells slots Q (F0 m (pc + 3) ls (.int (gI t 2 0) :: rest))) : W p l e R s m args below meth c H locs cells slots Q (F0 m pc ls (.ref (ad 0) :: rest)) :=
  va_get (D := D) (ci := 0) (C := "ListForgeModel") (T := T_M) (N := 31) hx hb hts in_M hown hK hP 0 at_M rfl 2 (by decide) (bg hts hlink) (fun _ h9 => h9) rfl hdg kk
theorem p_M_asked (hx : p.tables.exec = Jvm.exec) (hb : c.code = cc) (hts : ∀ w ∈ c0 :: big, w.before args s = true) (hown : s.vm.findClass "ListForgeModel" = some m.cls) (hK : va_K D clm (mT ka) s) (hP : va_P D clm (mw ad ka t) H) (hD : va_D A (mw ad ka t)) (hS : va_S A H0 H locs) {v : Int32} (hlink : Cond.fieldLink "ListForgeModel" idx "ListForgeModel" "asked" "I" ∈ big) (hdg : decode cc pc = .ok (.putfield idx, 3)) (kk : ∀ (H1 : Heap) (locs1 : List Loc), va_P D clm (mw ad ka (pI t 2 0 v)) H1 → va_D A (mw ad ka (pI t 2 0 v)) → va_S A H0 H1 locs1 → W p l e R s m args below meth c H1 locs1 cells slots Q (F0 m (pc + 3) ls rest)) : W p l e R s m args below meth c H locs cells slots Q (F0 m pc ls (.int v :: .ref (ad 0) :: rest)) :=
  va_put (D := D) (ci := 0) (ty := .int) (C := "ListForgeModel") (T := T_M) (N := 31) hx hb hts in_M t_M t_M_ok n_M hown hK hP hD hS 0 at_M rfl 2 (by decide) (bg hts hlink) (fun _ h9 => h9) rfl (by decide +kernel) rfl rfl (Nat.le_of_ble_eq_true rfl) hdg (fun H1 locs1 h1 h2 h3 => kk H1 locs1 (s_M_asked ▸ h1) (s_M_asked ▸ h2) h3)
theorem g_M_posts (hx : p.tables.exec = Jvm.exec) (hb : c.code = cc) (hts : ∀ w ∈ c0 :: big, w.before args s = true) (hown : s.vm.findClass "ListForgeModel" = some m.cls) (hK : va_K D clm (mT ka) s) (hP : va_P D clm (mw ad ka t) H) (hlink : Cond.fieldLink "ListForgeModel" idx "ListForgeModel" "posts" "I" ∈ big) (hdg : decode cc pc = .ok (.getfield idx, 3)) (kk : W p l e R s m args below meth c H locs cells slots Q (F0 m (pc + 3) ls (.int (gI t 3 0) :: rest))) : W p l e R s m args below meth c H locs cells slots Q (F0 m pc ls (.ref (ad 0) :: rest)) :=
  va_get (D := D) (ci := 0) (C := "ListForgeModel") (T := T_M) (N := 31) hx hb hts in_M hown hK hP 0 at_M rfl 3 (by decide) (bg hts hlink) (fun _ h9 => h9) rfl hdg kk
theorem p_M_posts (hx : p.tables.exec = Jvm.exec) (hb : c.code = cc) (hts : ∀ w ∈ c0 :: big, w.before args s = true) (hown : s.vm.findClass "ListForgeModel" = some m.cls) (hK : va_K D clm (mT ka) s) (hP : va_P D clm (mw ad ka t) H) (hD : va_D A (mw ad ka t)) (hS : va_S A H0 H locs) {v : Int32} (hlink : Cond.fieldLink "ListForgeModel" idx "ListForgeModel" "posts" "I" ∈ big) (hdg : decode cc pc = .ok (.putfield idx, 3)) (kk : ∀ (H1 : Heap) (locs1 : List Loc), va_P D clm (mw ad ka (pI t 3 0 v)) H1 → va_D A (mw ad ka (pI t 3 0 v)) → va_S A H0 H1 locs1 → W p l e R s m args below meth c H1 locs1 cells slots Q (F0 m (pc + 3) ls rest)) : W p l e R s m args below meth c H locs cells slots Q (F0 m pc ls (.int v :: .ref (ad 0) :: rest)) :=
  va_put (D := D) (ci := 0) (ty := .int) (C := "ListForgeModel") (T := T_M) (N := 31) hx hb hts in_M t_M t_M_ok n_M hown hK hP hD hS 0 at_M rfl 3 (by decide) (bg hts hlink) (fun _ h9 => h9) rfl (by decide +kernel) rfl rfl (Nat.le_of_ble_eq_true rfl) hdg (fun H1 locs1 h1 h2 h3 => kk H1 locs1 (s_M_posts ▸ h1) (s_M_posts ▸ h2) h3)
theorem g_M_sentMany (hx : p.tables.exec = Jvm.exec) (hb : c.code = cc) (hts : ∀ w ∈ c0 :: big, w.before args s = true) (hown : s.vm.findClass "ListForgeModel" = some m.cls) (hK : va_K D clm (mT ka) s) (hP : va_P D clm (mw ad ka t) H) (hlink : Cond.fieldLink "ListForgeModel" idx "ListForgeModel" "sentMany" "I" ∈ big) (hdg : decode cc pc = .ok (.getfield idx, 3)) (kk : W p l e R s m args below meth c H locs cells slots Q (F0 m (pc + 3) ls (.int (gI t 4 0) :: rest))) : W p l e R s m args below meth c H locs cells slots Q (F0 m pc ls (.ref (ad 0) :: rest)) :=
  va_get (D := D) (ci := 0) (C := "ListForgeModel") (T := T_M) (N := 31) hx hb hts in_M hown hK hP 0 at_M rfl 4 (by decide) (bg hts hlink) (fun _ h9 => h9) rfl hdg kk
theorem p_M_sentMany (hx : p.tables.exec = Jvm.exec) (hb : c.code = cc) (hts : ∀ w ∈ c0 :: big, w.before args s = true) (hown : s.vm.findClass "ListForgeModel" = some m.cls) (hK : va_K D clm (mT ka) s) (hP : va_P D clm (mw ad ka t) H) (hD : va_D A (mw ad ka t)) (hS : va_S A H0 H locs) {v : Int32} (hlink : Cond.fieldLink "ListForgeModel" idx "ListForgeModel" "sentMany" "I" ∈ big) (hdg : decode cc pc = .ok (.putfield idx, 3)) (kk : ∀ (H1 : Heap) (locs1 : List Loc), va_P D clm (mw ad ka (pI t 4 0 v)) H1 → va_D A (mw ad ka (pI t 4 0 v)) → va_S A H0 H1 locs1 → W p l e R s m args below meth c H1 locs1 cells slots Q (F0 m (pc + 3) ls rest)) : W p l e R s m args below meth c H locs cells slots Q (F0 m pc ls (.int v :: .ref (ad 0) :: rest)) :=
  va_put (D := D) (ci := 0) (ty := .int) (C := "ListForgeModel") (T := T_M) (N := 31) hx hb hts in_M t_M t_M_ok n_M hown hK hP hD hS 0 at_M rfl 4 (by decide) (bg hts hlink) (fun _ h9 => h9) rfl (by decide +kernel) rfl rfl (Nat.le_of_ble_eq_true rfl) hdg (fun H1 locs1 h1 h2 h3 => kk H1 locs1 (s_M_sentMany ▸ h1) (s_M_sentMany ▸ h2) h3)
theorem g_M_state (hx : p.tables.exec = Jvm.exec) (hb : c.code = cc) (hts : ∀ w ∈ c0 :: big, w.before args s = true) (hown : s.vm.findClass "ListForgeModel" = some m.cls) (hK : va_K D clm (mT ka) s) (hP : va_P D clm (mw ad ka t) H) (hlink : Cond.fieldLink "ListForgeModel" idx "ListForgeModel" "state" "[I" ∈ big) (hdg : decode cc pc = .ok (.getfield idx, 3)) (kk : W p l e R s m args below meth c H locs cells slots Q (F0 m (pc + 3) ls (.ref (ad 1) :: rest))) : W p l e R s m args below meth c H locs cells slots Q (F0 m pc ls (.ref (ad 0) :: rest)) :=
  va_get (D := D) (ci := 0) (C := "ListForgeModel") (T := T_M) (N := 31) hx hb hts in_M hown hK hP 0 at_M rfl 5 (by decide) (bg hts hlink) (fun _ h9 => h9) rfl hdg kk
theorem g_M_way (hx : p.tables.exec = Jvm.exec) (hb : c.code = cc) (hts : ∀ w ∈ c0 :: big, w.before args s = true) (hown : s.vm.findClass "ListForgeModel" = some m.cls) (hK : va_K D clm (mT ka) s) (hP : va_P D clm (mw ad ka t) H) (hlink : Cond.fieldLink "ListForgeModel" idx "ListForgeModel" "way" "[I" ∈ big) (hdg : decode cc pc = .ok (.getfield idx, 3)) (kk : W p l e R s m args below meth c H locs cells slots Q (F0 m (pc + 3) ls (.ref (ad 2) :: rest))) : W p l e R s m args below meth c H locs cells slots Q (F0 m pc ls (.ref (ad 0) :: rest)) :=
  va_get (D := D) (ci := 0) (C := "ListForgeModel") (T := T_M) (N := 31) hx hb hts in_M hown hK hP 0 at_M rfl 6 (by decide) (bg hts hlink) (fun _ h9 => h9) rfl hdg kk
theorem g_M_since (hx : p.tables.exec = Jvm.exec) (hb : c.code = cc) (hts : ∀ w ∈ c0 :: big, w.before args s = true) (hown : s.vm.findClass "ListForgeModel" = some m.cls) (hK : va_K D clm (mT ka) s) (hP : va_P D clm (mw ad ka t) H) (hlink : Cond.fieldLink "ListForgeModel" idx "ListForgeModel" "since" "[I" ∈ big) (hdg : decode cc pc = .ok (.getfield idx, 3)) (kk : W p l e R s m args below meth c H locs cells slots Q (F0 m (pc + 3) ls (.ref (ad 3) :: rest))) : W p l e R s m args below meth c H locs cells slots Q (F0 m pc ls (.ref (ad 0) :: rest)) :=
  va_get (D := D) (ci := 0) (C := "ListForgeModel") (T := T_M) (N := 31) hx hb hts in_M hown hK hP 0 at_M rfl 7 (by decide) (bg hts hlink) (fun _ h9 => h9) rfl hdg kk
theorem g_M_code (hx : p.tables.exec = Jvm.exec) (hb : c.code = cc) (hts : ∀ w ∈ c0 :: big, w.before args s = true) (hown : s.vm.findClass "ListForgeModel" = some m.cls) (hK : va_K D clm (mT ka) s) (hP : va_P D clm (mw ad ka t) H) (hlink : Cond.fieldLink "ListForgeModel" idx "ListForgeModel" "code" "[I" ∈ big) (hdg : decode cc pc = .ok (.getfield idx, 3)) (kk : W p l e R s m args below meth c H locs cells slots Q (F0 m (pc + 3) ls (.ref (ad 4) :: rest))) : W p l e R s m args below meth c H locs cells slots Q (F0 m pc ls (.ref (ad 0) :: rest)) :=
  va_get (D := D) (ci := 0) (C := "ListForgeModel") (T := T_M) (N := 31) hx hb hts in_M hown hK hP 0 at_M rfl 8 (by decide) (bg hts hlink) (fun _ h9 => h9) rfl hdg kk
theorem g_M_warning (hx : p.tables.exec = Jvm.exec) (hb : c.code = cc) (hts : ∀ w ∈ c0 :: big, w.before args s = true) (hown : s.vm.findClass "ListForgeModel" = some m.cls) (hK : va_K D clm (mT ka) s) (hP : va_P D clm (mw ad ka t) H) (hlink : Cond.fieldLink "ListForgeModel" idx "ListForgeModel" "warning" "[I" ∈ big) (hdg : decode cc pc = .ok (.getfield idx, 3)) (kk : W p l e R s m args below meth c H locs cells slots Q (F0 m (pc + 3) ls (.ref (ad 5) :: rest))) : W p l e R s m args below meth c H locs cells slots Q (F0 m pc ls (.ref (ad 0) :: rest)) :=
  va_get (D := D) (ci := 0) (C := "ListForgeModel") (T := T_M) (N := 31) hx hb hts in_M hown hK hP 0 at_M rfl 9 (by decide) (bg hts hlink) (fun _ h9 => h9) rfl hdg kk
theorem g_M_bounced (hx : p.tables.exec = Jvm.exec) (hb : c.code = cc) (hts : ∀ w ∈ c0 :: big, w.before args s = true) (hown : s.vm.findClass "ListForgeModel" = some m.cls) (hK : va_K D clm (mT ka) s) (hP : va_P D clm (mw ad ka t) H) (hlink : Cond.fieldLink "ListForgeModel" idx "ListForgeModel" "bounced" "[I" ∈ big) (hdg : decode cc pc = .ok (.getfield idx, 3)) (kk : W p l e R s m args below meth c H locs cells slots Q (F0 m (pc + 3) ls (.ref (ad 6) :: rest))) : W p l e R s m args below meth c H locs cells slots Q (F0 m pc ls (.ref (ad 0) :: rest)) :=
  va_get (D := D) (ci := 0) (C := "ListForgeModel") (T := T_M) (N := 31) hx hb hts in_M hown hK hP 0 at_M rfl 10 (by decide) (bg hts hlink) (fun _ h9 => h9) rfl hdg kk
theorem g_M_moderates (hx : p.tables.exec = Jvm.exec) (hb : c.code = cc) (hts : ∀ w ∈ c0 :: big, w.before args s = true) (hown : s.vm.findClass "ListForgeModel" = some m.cls) (hK : va_K D clm (mT ka) s) (hP : va_P D clm (mw ad ka t) H) (hlink : Cond.fieldLink "ListForgeModel" idx "ListForgeModel" "moderates" "[Z" ∈ big) (hdg : decode cc pc = .ok (.getfield idx, 3)) (kk : W p l e R s m args below meth c H locs cells slots Q (F0 m (pc + 3) ls (.ref (ad 7) :: rest))) : W p l e R s m args below meth c H locs cells slots Q (F0 m pc ls (.ref (ad 0) :: rest)) :=
  va_get (D := D) (ci := 0) (C := "ListForgeModel") (T := T_M) (N := 31) hx hb hts in_M hown hK hP 0 at_M rfl 11 (by decide) (bg hts hlink) (fun _ h9 => h9) rfl hdg kk
theorem g_M_banned (hx : p.tables.exec = Jvm.exec) (hb : c.code = cc) (hts : ∀ w ∈ c0 :: big, w.before args s = true) (hown : s.vm.findClass "ListForgeModel" = some m.cls) (hK : va_K D clm (mT ka) s) (hP : va_P D clm (mw ad ka t) H) (hlink : Cond.fieldLink "ListForgeModel" idx "ListForgeModel" "banned" "[Z" ∈ big) (hdg : decode cc pc = .ok (.getfield idx, 3)) (kk : W p l e R s m args below meth c H locs cells slots Q (F0 m (pc + 3) ls (.ref (ad 8) :: rest))) : W p l e R s m args below meth c H locs cells slots Q (F0 m pc ls (.ref (ad 0) :: rest)) :=
  va_get (D := D) (ci := 0) (C := "ListForgeModel") (T := T_M) (N := 31) hx hb hts in_M hown hK hP 0 at_M rfl 12 (by decide) (bg hts hlink) (fun _ h9 => h9) rfl hdg kk
theorem g_M_score (hx : p.tables.exec = Jvm.exec) (hb : c.code = cc) (hts : ∀ w ∈ c0 :: big, w.before args s = true) (hown : s.vm.findClass "ListForgeModel" = some m.cls) (hK : va_K D clm (mT ka) s) (hP : va_P D clm (mw ad ka t) H) (hlink : Cond.fieldLink "ListForgeModel" idx "ListForgeModel" "score" "[D" ∈ big) (hdg : decode cc pc = .ok (.getfield idx, 3)) (kk : W p l e R s m args below meth c H locs cells slots Q (F0 m (pc + 3) ls (.ref (ad 9) :: rest))) : W p l e R s m args below meth c H locs cells slots Q (F0 m pc ls (.ref (ad 0) :: rest)) :=
  va_get (D := D) (ci := 0) (C := "ListForgeModel") (T := T_M) (N := 31) hx hb hts in_M hown hK hP 0 at_M rfl 13 (by decide) (bg hts hlink) (fun _ h9 => h9) rfl hdg kk
theorem g_M_open (hx : p.tables.exec = Jvm.exec) (hb : c.code = cc) (hts : ∀ w ∈ c0 :: big, w.before args s = true) (hown : s.vm.findClass "ListForgeModel" = some m.cls) (hK : va_K D clm (mT ka) s) (hP : va_P D clm (mw ad ka t) H) (hlink : Cond.fieldLink "ListForgeModel" idx "ListForgeModel" "open" "[Z" ∈ big) (hdg : decode cc pc = .ok (.getfield idx, 3)) (kk : W p l e R s m args below meth c H locs cells slots Q (F0 m (pc + 3) ls (.ref (ad 10) :: rest))) : W p l e R s m args below meth c H locs cells slots Q (F0 m pc ls (.ref (ad 0) :: rest)) :=
  va_get (D := D) (ci := 0) (C := "ListForgeModel") (T := T_M) (N := 31) hx hb hts in_M hown hK hP 0 at_M rfl 14 (by decide) (bg hts hlink) (fun _ h9 => h9) rfl hdg kk
theorem g_M_watched (hx : p.tables.exec = Jvm.exec) (hb : c.code = cc) (hts : ∀ w ∈ c0 :: big, w.before args s = true) (hown : s.vm.findClass "ListForgeModel" = some m.cls) (hK : va_K D clm (mT ka) s) (hP : va_P D clm (mw ad ka t) H) (hlink : Cond.fieldLink "ListForgeModel" idx "ListForgeModel" "watched" "[Z" ∈ big) (hdg : decode cc pc = .ok (.getfield idx, 3)) (kk : W p l e R s m args below meth c H locs cells slots Q (F0 m (pc + 3) ls (.ref (ad 11) :: rest))) : W p l e R s m args below meth c H locs cells slots Q (F0 m pc ls (.ref (ad 0) :: rest)) :=
  va_get (D := D) (ci := 0) (C := "ListForgeModel") (T := T_M) (N := 31) hx hb hts in_M hown hK hP 0 at_M rfl 15 (by decide) (bg hts hlink) (fun _ h9 => h9) rfl hdg kk
theorem g_M_barred (hx : p.tables.exec = Jvm.exec) (hb : c.code = cc) (hts : ∀ w ∈ c0 :: big, w.before args s = true) (hown : s.vm.findClass "ListForgeModel" = some m.cls) (hK : va_K D clm (mT ka) s) (hP : va_P D clm (mw ad ka t) H) (hlink : Cond.fieldLink "ListForgeModel" idx "ListForgeModel" "barred" "[Z" ∈ big) (hdg : decode cc pc = .ok (.getfield idx, 3)) (kk : W p l e R s m args below meth c H locs cells slots Q (F0 m (pc + 3) ls (.ref (ad 12) :: rest))) : W p l e R s m args below meth c H locs cells slots Q (F0 m pc ls (.ref (ad 0) :: rest)) :=
  va_get (D := D) (ci := 0) (C := "ListForgeModel") (T := T_M) (N := 31) hx hb hts in_M hown hK hP 0 at_M rfl 16 (by decide) (bg hts hlink) (fun _ h9 => h9) rfl hdg kk
theorem g_M_greatest (hx : p.tables.exec = Jvm.exec) (hb : c.code = cc) (hts : ∀ w ∈ c0 :: big, w.before args s = true) (hown : s.vm.findClass "ListForgeModel" = some m.cls) (hK : va_K D clm (mT ka) s) (hP : va_P D clm (mw ad ka t) H) (hlink : Cond.fieldLink "ListForgeModel" idx "ListForgeModel" "greatest" "[I" ∈ big) (hdg : decode cc pc = .ok (.getfield idx, 3)) (kk : W p l e R s m args below meth c H locs cells slots Q (F0 m (pc + 3) ls (.ref (ad 13) :: rest))) : W p l e R s m args below meth c H locs cells slots Q (F0 m pc ls (.ref (ad 0) :: rest)) :=
  va_get (D := D) (ci := 0) (C := "ListForgeModel") (T := T_M) (N := 31) hx hb hts in_M hown hK hP 0 at_M rfl 17 (by decide) (bg hts hlink) (fun _ h9 => h9) rfl hdg kk
theorem g_M_full (hx : p.tables.exec = Jvm.exec) (hb : c.code = cc) (hts : ∀ w ∈ c0 :: big, w.before args s = true) (hown : s.vm.findClass "ListForgeModel" = some m.cls) (hK : va_K D clm (mT ka) s) (hP : va_P D clm (mw ad ka t) H) (hlink : Cond.fieldLink "ListForgeModel" idx "ListForgeModel" "full" "[I" ∈ big) (hdg : decode cc pc = .ok (.getfield idx, 3)) (kk : W p l e R s m args below meth c H locs cells slots Q (F0 m (pc + 3) ls (.ref (ad 14) :: rest))) : W p l e R s m args below meth c H locs cells slots Q (F0 m pc ls (.ref (ad 0) :: rest)) :=
  va_get (D := D) (ci := 0) (C := "ListForgeModel") (T := T_M) (N := 31) hx hb hts in_M hown hK hP 0 at_M rfl 18 (by decide) (bg hts hlink) (fun _ h9 => h9) rfl hdg kk
theorem g_M_best (hx : p.tables.exec = Jvm.exec) (hb : c.code = cc) (hts : ∀ w ∈ c0 :: big, w.before args s = true) (hown : s.vm.findClass "ListForgeModel" = some m.cls) (hK : va_K D clm (mT ka) s) (hP : va_P D clm (mw ad ka t) H) (hlink : Cond.fieldLink "ListForgeModel" idx "ListForgeModel" "best" "[D" ∈ big) (hdg : decode cc pc = .ok (.getfield idx, 3)) (kk : W p l e R s m args below meth c H locs cells slots Q (F0 m (pc + 3) ls (.ref (ad 15) :: rest))) : W p l e R s m args below meth c H locs cells slots Q (F0 m pc ls (.ref (ad 0) :: rest)) :=
  va_get (D := D) (ci := 0) (C := "ListForgeModel") (T := T_M) (N := 31) hx hb hts in_M hown hK hP 0 at_M rfl 19 (by decide) (bg hts hlink) (fun _ h9 => h9) rfl hdg kk
theorem g_M_pList (hx : p.tables.exec = Jvm.exec) (hb : c.code = cc) (hts : ∀ w ∈ c0 :: big, w.before args s = true) (hown : s.vm.findClass "ListForgeModel" = some m.cls) (hK : va_K D clm (mT ka) s) (hP : va_P D clm (mw ad ka t) H) (hlink : Cond.fieldLink "ListForgeModel" idx "ListForgeModel" "pList" "[I" ∈ big) (hdg : decode cc pc = .ok (.getfield idx, 3)) (kk : W p l e R s m args below meth c H locs cells slots Q (F0 m (pc + 3) ls (.ref (ad 16) :: rest))) : W p l e R s m args below meth c H locs cells slots Q (F0 m pc ls (.ref (ad 0) :: rest)) :=
  va_get (D := D) (ci := 0) (C := "ListForgeModel") (T := T_M) (N := 31) hx hb hts in_M hown hK hP 0 at_M rfl 20 (by decide) (bg hts hlink) (fun _ h9 => h9) rfl hdg kk
theorem g_M_pFrom (hx : p.tables.exec = Jvm.exec) (hb : c.code = cc) (hts : ∀ w ∈ c0 :: big, w.before args s = true) (hown : s.vm.findClass "ListForgeModel" = some m.cls) (hK : va_K D clm (mT ka) s) (hP : va_P D clm (mw ad ka t) H) (hlink : Cond.fieldLink "ListForgeModel" idx "ListForgeModel" "pFrom" "[I" ∈ big) (hdg : decode cc pc = .ok (.getfield idx, 3)) (kk : W p l e R s m args below meth c H locs cells slots Q (F0 m (pc + 3) ls (.ref (ad 17) :: rest))) : W p l e R s m args below meth c H locs cells slots Q (F0 m pc ls (.ref (ad 0) :: rest)) :=
  va_get (D := D) (ci := 0) (C := "ListForgeModel") (T := T_M) (N := 31) hx hb hts in_M hown hK hP 0 at_M rfl 21 (by decide) (bg hts hlink) (fun _ h9 => h9) rfl hdg kk
theorem g_M_pSize (hx : p.tables.exec = Jvm.exec) (hb : c.code = cc) (hts : ∀ w ∈ c0 :: big, w.before args s = true) (hown : s.vm.findClass "ListForgeModel" = some m.cls) (hK : va_K D clm (mT ka) s) (hP : va_P D clm (mw ad ka t) H) (hlink : Cond.fieldLink "ListForgeModel" idx "ListForgeModel" "pSize" "[I" ∈ big) (hdg : decode cc pc = .ok (.getfield idx, 3)) (kk : W p l e R s m args below meth c H locs cells slots Q (F0 m (pc + 3) ls (.ref (ad 18) :: rest))) : W p l e R s m args below meth c H locs cells slots Q (F0 m pc ls (.ref (ad 0) :: rest)) :=
  va_get (D := D) (ci := 0) (C := "ListForgeModel") (T := T_M) (N := 31) hx hb hts in_M hown hK hP 0 at_M rfl 22 (by decide) (bg hts hlink) (fun _ h9 => h9) rfl hdg kk
theorem g_M_pState (hx : p.tables.exec = Jvm.exec) (hb : c.code = cc) (hts : ∀ w ∈ c0 :: big, w.before args s = true) (hown : s.vm.findClass "ListForgeModel" = some m.cls) (hK : va_K D clm (mT ka) s) (hP : va_P D clm (mw ad ka t) H) (hlink : Cond.fieldLink "ListForgeModel" idx "ListForgeModel" "pState" "[I" ∈ big) (hdg : decode cc pc = .ok (.getfield idx, 3)) (kk : W p l e R s m args below meth c H locs cells slots Q (F0 m (pc + 3) ls (.ref (ad 19) :: rest))) : W p l e R s m args below meth c H locs cells slots Q (F0 m pc ls (.ref (ad 0) :: rest)) :=
  va_get (D := D) (ci := 0) (C := "ListForgeModel") (T := T_M) (N := 31) hx hb hts in_M hown hK hP 0 at_M rfl 23 (by decide) (bg hts hlink) (fun _ h9 => h9) rfl hdg kk
theorem g_M_bundle (hx : p.tables.exec = Jvm.exec) (hb : c.code = cc) (hts : ∀ w ∈ c0 :: big, w.before args s = true) (hown : s.vm.findClass "ListForgeModel" = some m.cls) (hK : va_K D clm (mT ka) s) (hP : va_P D clm (mw ad ka t) H) (hlink : Cond.fieldLink "ListForgeModel" idx "ListForgeModel" "bundle" "[I" ∈ big) (hdg : decode cc pc = .ok (.getfield idx, 3)) (kk : W p l e R s m args below meth c H locs cells slots Q (F0 m (pc + 3) ls (.ref (ad 20) :: rest))) : W p l e R s m args below meth c H locs cells slots Q (F0 m pc ls (.ref (ad 0) :: rest)) :=
  va_get (D := D) (ci := 0) (C := "ListForgeModel") (T := T_M) (N := 31) hx hb hts in_M hown hK hP 0 at_M rfl 24 (by decide) (bg hts hlink) (fun _ h9 => h9) rfl hdg kk
theorem g_M_bSize (hx : p.tables.exec = Jvm.exec) (hb : c.code = cc) (hts : ∀ w ∈ c0 :: big, w.before args s = true) (hown : s.vm.findClass "ListForgeModel" = some m.cls) (hK : va_K D clm (mT ka) s) (hP : va_P D clm (mw ad ka t) H) (hlink : Cond.fieldLink "ListForgeModel" idx "ListForgeModel" "bSize" "[I" ∈ big) (hdg : decode cc pc = .ok (.getfield idx, 3)) (kk : W p l e R s m args below meth c H locs cells slots Q (F0 m (pc + 3) ls (.ref (ad 21) :: rest))) : W p l e R s m args below meth c H locs cells slots Q (F0 m pc ls (.ref (ad 0) :: rest)) :=
  va_get (D := D) (ci := 0) (C := "ListForgeModel") (T := T_M) (N := 31) hx hb hts in_M hown hK hP 0 at_M rfl 25 (by decide) (bg hts hlink) (fun _ h9 => h9) rfl hdg kk
theorem g_M_bDay (hx : p.tables.exec = Jvm.exec) (hb : c.code = cc) (hts : ∀ w ∈ c0 :: big, w.before args s = true) (hown : s.vm.findClass "ListForgeModel" = some m.cls) (hK : va_K D clm (mT ka) s) (hP : va_P D clm (mw ad ka t) H) (hlink : Cond.fieldLink "ListForgeModel" idx "ListForgeModel" "bDay" "[I" ∈ big) (hdg : decode cc pc = .ok (.getfield idx, 3)) (kk : W p l e R s m args below meth c H locs cells slots Q (F0 m (pc + 3) ls (.ref (ad 22) :: rest))) : W p l e R s m args below meth c H locs cells slots Q (F0 m pc ls (.ref (ad 0) :: rest)) :=
  va_get (D := D) (ci := 0) (C := "ListForgeModel") (T := T_M) (N := 31) hx hb hts in_M hown hK hP 0 at_M rfl 26 (by decide) (bg hts hlink) (fun _ h9 => h9) rfl hdg kk
theorem g_M_outTo (hx : p.tables.exec = Jvm.exec) (hb : c.code = cc) (hts : ∀ w ∈ c0 :: big, w.before args s = true) (hown : s.vm.findClass "ListForgeModel" = some m.cls) (hK : va_K D clm (mT ka) s) (hP : va_P D clm (mw ad ka t) H) (hlink : Cond.fieldLink "ListForgeModel" idx "ListForgeModel" "outTo" "[I" ∈ big) (hdg : decode cc pc = .ok (.getfield idx, 3)) (kk : W p l e R s m args below meth c H locs cells slots Q (F0 m (pc + 3) ls (.ref (ad 23) :: rest))) : W p l e R s m args below meth c H locs cells slots Q (F0 m pc ls (.ref (ad 0) :: rest)) :=
  va_get (D := D) (ci := 0) (C := "ListForgeModel") (T := T_M) (N := 31) hx hb hts in_M hown hK hP 0 at_M rfl 27 (by decide) (bg hts hlink) (fun _ h9 => h9) rfl hdg kk
theorem g_M_outList (hx : p.tables.exec = Jvm.exec) (hb : c.code = cc) (hts : ∀ w ∈ c0 :: big, w.before args s = true) (hown : s.vm.findClass "ListForgeModel" = some m.cls) (hK : va_K D clm (mT ka) s) (hP : va_P D clm (mw ad ka t) H) (hlink : Cond.fieldLink "ListForgeModel" idx "ListForgeModel" "outList" "[I" ∈ big) (hdg : decode cc pc = .ok (.getfield idx, 3)) (kk : W p l e R s m args below meth c H locs cells slots Q (F0 m (pc + 3) ls (.ref (ad 24) :: rest))) : W p l e R s m args below meth c H locs cells slots Q (F0 m pc ls (.ref (ad 0) :: rest)) :=
  va_get (D := D) (ci := 0) (C := "ListForgeModel") (T := T_M) (N := 31) hx hb hts in_M hown hK hP 0 at_M rfl 28 (by decide) (bg hts hlink) (fun _ h9 => h9) rfl hdg kk
theorem g_M_outSort (hx : p.tables.exec = Jvm.exec) (hb : c.code = cc) (hts : ∀ w ∈ c0 :: big, w.before args s = true) (hown : s.vm.findClass "ListForgeModel" = some m.cls) (hK : va_K D clm (mT ka) s) (hP : va_P D clm (mw ad ka t) H) (hlink : Cond.fieldLink "ListForgeModel" idx "ListForgeModel" "outSort" "[I" ∈ big) (hdg : decode cc pc = .ok (.getfield idx, 3)) (kk : W p l e R s m args below meth c H locs cells slots Q (F0 m (pc + 3) ls (.ref (ad 25) :: rest))) : W p l e R s m args below meth c H locs cells slots Q (F0 m pc ls (.ref (ad 0) :: rest)) :=
  va_get (D := D) (ci := 0) (C := "ListForgeModel") (T := T_M) (N := 31) hx hb hts in_M hown hK hP 0 at_M rfl 29 (by decide) (bg hts hlink) (fun _ h9 => h9) rfl hdg kk
theorem g_M_outNumber (hx : p.tables.exec = Jvm.exec) (hb : c.code = cc) (hts : ∀ w ∈ c0 :: big, w.before args s = true) (hown : s.vm.findClass "ListForgeModel" = some m.cls) (hK : va_K D clm (mT ka) s) (hP : va_P D clm (mw ad ka t) H) (hlink : Cond.fieldLink "ListForgeModel" idx "ListForgeModel" "outNumber" "[I" ∈ big) (hdg : decode cc pc = .ok (.getfield idx, 3)) (kk : W p l e R s m args below meth c H locs cells slots Q (F0 m (pc + 3) ls (.ref (ad 26) :: rest))) : W p l e R s m args below meth c H locs cells slots Q (F0 m pc ls (.ref (ad 0) :: rest)) :=
  va_get (D := D) (ci := 0) (C := "ListForgeModel") (T := T_M) (N := 31) hx hb hts in_M hown hK hP 0 at_M rfl 30 (by decide) (bg hts hlink) (fun _ h9 => h9) rfl hdg kk
theorem g_m_state (hx : p.tables.exec = Jvm.exec) (hb : c.code = cc) (hK : va_K D clm (mT ka) s) (hP : va_P D clm (mw ad ka t) H) {r : Nat} (hr : r < 36) {i : Int32} (hi : i = nI r) (hdg : decode cc pc = .ok (.iaload, 1)) (kk : W p l e R s m args below meth c H locs cells slots Q (F0 m (pc + 1) ls (.int (gI t 1001 r) :: rest))) : W p l e R s m args below meth c H locs cells slots Q (F0 m pc ls (.int i :: .ref (ad 1) :: rest)) := by
  subst hi
  refine va_iald (D := D) hx hb hK hP 1 0 at_m_state rfl (vp_in_nI hr (by decide)) hdg ?_
  rw [nI_clamp (by omega)]
  exact kk
theorem p_m_state (hx : p.tables.exec = Jvm.exec) (hb : c.code = cc) (hK : va_K D clm (mT ka) s) (hP : va_P D clm (mw ad ka t) H) (hD : va_D A (mw ad ka t)) (hS : va_S A H0 H locs) {r : Nat} (hr : r < 36) {i : Int32} (hi : i = nI r) {v : Int32} (hdg : decode cc pc = .ok (.iastore, 1)) (kk : ∀ (H1 : Heap) (locs1 : List Loc), va_P D clm (mw ad ka (pI t 1001 r v)) H1 → va_D A (mw ad ka (pI t 1001 r v)) → va_S A H0 H1 locs1 → W p l e R s m args below meth c H1 locs1 cells slots Q (F0 m (pc + 1) ls rest)) : W p l e R s m args below meth c H locs cells slots Q (F0 m pc ls (.int v :: .int i :: .ref (ad 1) :: rest)) := by
  subst hi
  refine va_iast (D := D) hx hb hK hP hD hS 1 0 at_m_state rfl (vp_in_nI hr (by decide)) hdg (fun H1 locs1 h1 h2 h3 => ?_)
  rw [nI_clamp (by omega)] at h1 h2
  exact kk H1 locs1 (s_m_state ▸ h1) (s_m_state ▸ h2) h3
theorem g_m_way (hx : p.tables.exec = Jvm.exec) (hb : c.code = cc) (hK : va_K D clm (mT ka) s) (hP : va_P D clm (mw ad ka t) H) {r : Nat} (hr : r < 36) {i : Int32} (hi : i = nI r) (hdg : decode cc pc = .ok (.iaload, 1)) (kk : W p l e R s m args below meth c H locs cells slots Q (F0 m (pc + 1) ls (.int (gI t 1002 r) :: rest))) : W p l e R s m args below meth c H locs cells slots Q (F0 m pc ls (.int i :: .ref (ad 2) :: rest)) := by
  subst hi
  refine va_iald (D := D) hx hb hK hP 2 0 at_m_way rfl (vp_in_nI hr (by decide)) hdg ?_
  rw [nI_clamp (by omega)]
  exact kk
theorem p_m_way (hx : p.tables.exec = Jvm.exec) (hb : c.code = cc) (hK : va_K D clm (mT ka) s) (hP : va_P D clm (mw ad ka t) H) (hD : va_D A (mw ad ka t)) (hS : va_S A H0 H locs) {r : Nat} (hr : r < 36) {i : Int32} (hi : i = nI r) {v : Int32} (hdg : decode cc pc = .ok (.iastore, 1)) (kk : ∀ (H1 : Heap) (locs1 : List Loc), va_P D clm (mw ad ka (pI t 1002 r v)) H1 → va_D A (mw ad ka (pI t 1002 r v)) → va_S A H0 H1 locs1 → W p l e R s m args below meth c H1 locs1 cells slots Q (F0 m (pc + 1) ls rest)) : W p l e R s m args below meth c H locs cells slots Q (F0 m pc ls (.int v :: .int i :: .ref (ad 2) :: rest)) := by
  subst hi
  refine va_iast (D := D) hx hb hK hP hD hS 2 0 at_m_way rfl (vp_in_nI hr (by decide)) hdg (fun H1 locs1 h1 h2 h3 => ?_)
  rw [nI_clamp (by omega)] at h1 h2
  exact kk H1 locs1 (s_m_way ▸ h1) (s_m_way ▸ h2) h3
theorem g_m_since (hx : p.tables.exec = Jvm.exec) (hb : c.code = cc) (hK : va_K D clm (mT ka) s) (hP : va_P D clm (mw ad ka t) H) {r : Nat} (hr : r < 36) {i : Int32} (hi : i = nI r) (hdg : decode cc pc = .ok (.iaload, 1)) (kk : W p l e R s m args below meth c H locs cells slots Q (F0 m (pc + 1) ls (.int (gI t 1003 r) :: rest))) : W p l e R s m args below meth c H locs cells slots Q (F0 m pc ls (.int i :: .ref (ad 3) :: rest)) := by
  subst hi
  refine va_iald (D := D) hx hb hK hP 3 0 at_m_since rfl (vp_in_nI hr (by decide)) hdg ?_
  rw [nI_clamp (by omega)]
  exact kk
theorem p_m_since (hx : p.tables.exec = Jvm.exec) (hb : c.code = cc) (hK : va_K D clm (mT ka) s) (hP : va_P D clm (mw ad ka t) H) (hD : va_D A (mw ad ka t)) (hS : va_S A H0 H locs) {r : Nat} (hr : r < 36) {i : Int32} (hi : i = nI r) {v : Int32} (hdg : decode cc pc = .ok (.iastore, 1)) (kk : ∀ (H1 : Heap) (locs1 : List Loc), va_P D clm (mw ad ka (pI t 1003 r v)) H1 → va_D A (mw ad ka (pI t 1003 r v)) → va_S A H0 H1 locs1 → W p l e R s m args below meth c H1 locs1 cells slots Q (F0 m (pc + 1) ls rest)) : W p l e R s m args below meth c H locs cells slots Q (F0 m pc ls (.int v :: .int i :: .ref (ad 3) :: rest)) := by
  subst hi
  refine va_iast (D := D) hx hb hK hP hD hS 3 0 at_m_since rfl (vp_in_nI hr (by decide)) hdg (fun H1 locs1 h1 h2 h3 => ?_)
  rw [nI_clamp (by omega)] at h1 h2
  exact kk H1 locs1 (s_m_since ▸ h1) (s_m_since ▸ h2) h3
theorem g_m_code (hx : p.tables.exec = Jvm.exec) (hb : c.code = cc) (hK : va_K D clm (mT ka) s) (hP : va_P D clm (mw ad ka t) H) {r : Nat} (hr : r < 36) {i : Int32} (hi : i = nI r) (hdg : decode cc pc = .ok (.iaload, 1)) (kk : W p l e R s m args below meth c H locs cells slots Q (F0 m (pc + 1) ls (.int (gI t 1004 r) :: rest))) : W p l e R s m args below meth c H locs cells slots Q (F0 m pc ls (.int i :: .ref (ad 4) :: rest)) := by
  subst hi
  refine va_iald (D := D) hx hb hK hP 4 0 at_m_code rfl (vp_in_nI hr (by decide)) hdg ?_
  rw [nI_clamp (by omega)]
  exact kk
theorem p_m_code (hx : p.tables.exec = Jvm.exec) (hb : c.code = cc) (hK : va_K D clm (mT ka) s) (hP : va_P D clm (mw ad ka t) H) (hD : va_D A (mw ad ka t)) (hS : va_S A H0 H locs) {r : Nat} (hr : r < 36) {i : Int32} (hi : i = nI r) {v : Int32} (hdg : decode cc pc = .ok (.iastore, 1)) (kk : ∀ (H1 : Heap) (locs1 : List Loc), va_P D clm (mw ad ka (pI t 1004 r v)) H1 → va_D A (mw ad ka (pI t 1004 r v)) → va_S A H0 H1 locs1 → W p l e R s m args below meth c H1 locs1 cells slots Q (F0 m (pc + 1) ls rest)) : W p l e R s m args below meth c H locs cells slots Q (F0 m pc ls (.int v :: .int i :: .ref (ad 4) :: rest)) := by
  subst hi
  refine va_iast (D := D) hx hb hK hP hD hS 4 0 at_m_code rfl (vp_in_nI hr (by decide)) hdg (fun H1 locs1 h1 h2 h3 => ?_)
  rw [nI_clamp (by omega)] at h1 h2
  exact kk H1 locs1 (s_m_code ▸ h1) (s_m_code ▸ h2) h3
theorem g_m_warning (hx : p.tables.exec = Jvm.exec) (hb : c.code = cc) (hK : va_K D clm (mT ka) s) (hP : va_P D clm (mw ad ka t) H) {r : Nat} (hr : r < 36) {i : Int32} (hi : i = nI r) (hdg : decode cc pc = .ok (.iaload, 1)) (kk : W p l e R s m args below meth c H locs cells slots Q (F0 m (pc + 1) ls (.int (gI t 1005 r) :: rest))) : W p l e R s m args below meth c H locs cells slots Q (F0 m pc ls (.int i :: .ref (ad 5) :: rest)) := by
  subst hi
  refine va_iald (D := D) hx hb hK hP 5 0 at_m_warning rfl (vp_in_nI hr (by decide)) hdg ?_
  rw [nI_clamp (by omega)]
  exact kk
theorem p_m_warning (hx : p.tables.exec = Jvm.exec) (hb : c.code = cc) (hK : va_K D clm (mT ka) s) (hP : va_P D clm (mw ad ka t) H) (hD : va_D A (mw ad ka t)) (hS : va_S A H0 H locs) {r : Nat} (hr : r < 36) {i : Int32} (hi : i = nI r) {v : Int32} (hdg : decode cc pc = .ok (.iastore, 1)) (kk : ∀ (H1 : Heap) (locs1 : List Loc), va_P D clm (mw ad ka (pI t 1005 r v)) H1 → va_D A (mw ad ka (pI t 1005 r v)) → va_S A H0 H1 locs1 → W p l e R s m args below meth c H1 locs1 cells slots Q (F0 m (pc + 1) ls rest)) : W p l e R s m args below meth c H locs cells slots Q (F0 m pc ls (.int v :: .int i :: .ref (ad 5) :: rest)) := by
  subst hi
  refine va_iast (D := D) hx hb hK hP hD hS 5 0 at_m_warning rfl (vp_in_nI hr (by decide)) hdg (fun H1 locs1 h1 h2 h3 => ?_)
  rw [nI_clamp (by omega)] at h1 h2
  exact kk H1 locs1 (s_m_warning ▸ h1) (s_m_warning ▸ h2) h3
theorem g_m_bounced (hx : p.tables.exec = Jvm.exec) (hb : c.code = cc) (hK : va_K D clm (mT ka) s) (hP : va_P D clm (mw ad ka t) H) {r : Nat} (hr : r < 36) {i : Int32} (hi : i = nI r) (hdg : decode cc pc = .ok (.iaload, 1)) (kk : W p l e R s m args below meth c H locs cells slots Q (F0 m (pc + 1) ls (.int (gI t 1006 r) :: rest))) : W p l e R s m args below meth c H locs cells slots Q (F0 m pc ls (.int i :: .ref (ad 6) :: rest)) := by
  subst hi
  refine va_iald (D := D) hx hb hK hP 6 0 at_m_bounced rfl (vp_in_nI hr (by decide)) hdg ?_
  rw [nI_clamp (by omega)]
  exact kk
theorem p_m_bounced (hx : p.tables.exec = Jvm.exec) (hb : c.code = cc) (hK : va_K D clm (mT ka) s) (hP : va_P D clm (mw ad ka t) H) (hD : va_D A (mw ad ka t)) (hS : va_S A H0 H locs) {r : Nat} (hr : r < 36) {i : Int32} (hi : i = nI r) {v : Int32} (hdg : decode cc pc = .ok (.iastore, 1)) (kk : ∀ (H1 : Heap) (locs1 : List Loc), va_P D clm (mw ad ka (pI t 1006 r v)) H1 → va_D A (mw ad ka (pI t 1006 r v)) → va_S A H0 H1 locs1 → W p l e R s m args below meth c H1 locs1 cells slots Q (F0 m (pc + 1) ls rest)) : W p l e R s m args below meth c H locs cells slots Q (F0 m pc ls (.int v :: .int i :: .ref (ad 6) :: rest)) := by
  subst hi
  refine va_iast (D := D) hx hb hK hP hD hS 6 0 at_m_bounced rfl (vp_in_nI hr (by decide)) hdg (fun H1 locs1 h1 h2 h3 => ?_)
  rw [nI_clamp (by omega)] at h1 h2
  exact kk H1 locs1 (s_m_bounced ▸ h1) (s_m_bounced ▸ h2) h3
theorem g_m_moderates (hx : p.tables.exec = Jvm.exec) (hb : c.code = cc) (hK : va_K D clm (mT ka) s) (hP : va_P D clm (mw ad ka t) H) {r : Nat} (hr : r < 36) {i : Int32} (hi : i = nI r) (hdg : decode cc pc = .ok (.baload, 1)) (kk : W p l e R s m args below meth c H locs cells slots Q (F0 m (pc + 1) ls (.int (gI t 1007 r) :: rest))) : W p l e R s m args below meth c H locs cells slots Q (F0 m pc ls (.int i :: .ref (ad 7) :: rest)) := by
  subst hi
  refine va_zald (D := D) hx hb hK hP 7 1 at_m_moderates rfl (vp_in_nI hr (by decide)) hdg ?_
  rw [nI_clamp (by omega)]
  exact kk
theorem p_m_moderates (hx : p.tables.exec = Jvm.exec) (hb : c.code = cc) (hK : va_K D clm (mT ka) s) (hP : va_P D clm (mw ad ka t) H) (hD : va_D A (mw ad ka t)) (hS : va_S A H0 H locs) {r : Nat} (hr : r < 36) {i : Int32} (hi : i = nI r) {v : Int32} (hz : b01 v) (hdg : decode cc pc = .ok (.bastore, 1)) (kk : ∀ (H1 : Heap) (locs1 : List Loc), va_P D clm (mw ad ka (pI t 1007 r v)) H1 → va_D A (mw ad ka (pI t 1007 r v)) → va_S A H0 H1 locs1 → W p l e R s m args below meth c H1 locs1 cells slots Q (F0 m (pc + 1) ls rest)) : W p l e R s m args below meth c H locs cells slots Q (F0 m pc ls (.int v :: .int i :: .ref (ad 7) :: rest)) := by
  subst hi
  refine va_zast (D := D) hx hb hK hP hD hS 7 1 at_m_moderates rfl (vp_in_nI hr (by decide)) hdg (fun H1 locs1 h1 h2 h3 => ?_)
  rw [nI_clamp (by omega), show vp_nar .boolean v = v by rcases hz with rfl | rfl <;> rfl] at h1 h2
  exact kk H1 locs1 (s_m_moderates ▸ h1) (s_m_moderates ▸ h2) h3
theorem g_m_banned (hx : p.tables.exec = Jvm.exec) (hb : c.code = cc) (hK : va_K D clm (mT ka) s) (hP : va_P D clm (mw ad ka t) H) {r : Nat} (hr : r < 36) {i : Int32} (hi : i = nI r) (hdg : decode cc pc = .ok (.baload, 1)) (kk : W p l e R s m args below meth c H locs cells slots Q (F0 m (pc + 1) ls (.int (gI t 1008 r) :: rest))) : W p l e R s m args below meth c H locs cells slots Q (F0 m pc ls (.int i :: .ref (ad 8) :: rest)) := by
  subst hi
  refine va_zald (D := D) hx hb hK hP 8 1 at_m_banned rfl (vp_in_nI hr (by decide)) hdg ?_
  rw [nI_clamp (by omega)]
  exact kk
theorem p_m_banned (hx : p.tables.exec = Jvm.exec) (hb : c.code = cc) (hK : va_K D clm (mT ka) s) (hP : va_P D clm (mw ad ka t) H) (hD : va_D A (mw ad ka t)) (hS : va_S A H0 H locs) {r : Nat} (hr : r < 36) {i : Int32} (hi : i = nI r) {v : Int32} (hz : b01 v) (hdg : decode cc pc = .ok (.bastore, 1)) (kk : ∀ (H1 : Heap) (locs1 : List Loc), va_P D clm (mw ad ka (pI t 1008 r v)) H1 → va_D A (mw ad ka (pI t 1008 r v)) → va_S A H0 H1 locs1 → W p l e R s m args below meth c H1 locs1 cells slots Q (F0 m (pc + 1) ls rest)) : W p l e R s m args below meth c H locs cells slots Q (F0 m pc ls (.int v :: .int i :: .ref (ad 8) :: rest)) := by
  subst hi
  refine va_zast (D := D) hx hb hK hP hD hS 8 1 at_m_banned rfl (vp_in_nI hr (by decide)) hdg (fun H1 locs1 h1 h2 h3 => ?_)
  rw [nI_clamp (by omega), show vp_nar .boolean v = v by rcases hz with rfl | rfl <;> rfl] at h1 h2
  exact kk H1 locs1 (s_m_banned ▸ h1) (s_m_banned ▸ h2) h3
theorem g_m_score (hx : p.tables.exec = Jvm.exec) (hb : c.code = cc) (hK : va_K D clm (mT ka) s) (hP : va_P D clm (mw ad ka t) H) {r : Nat} (hr : r < 36) {i : Int32} (hi : i = nI r) (hdg : decode cc pc = .ok (.daload, 1)) (kk : W p l e R s m args below meth c H locs cells slots Q (F0 m (pc + 1) ls (.double (gD t 1009 r) :: rest))) : W p l e R s m args below meth c H locs cells slots Q (F0 m pc ls (.int i :: .ref (ad 9) :: rest)) := by
  subst hi
  refine va_dald (D := D) hx hb hK hP 9 2 at_m_score rfl (vp_in_nI hr (by decide)) hdg ?_
  rw [nI_clamp (by omega)]
  exact kk
theorem p_m_score (hx : p.tables.exec = Jvm.exec) (hb : c.code = cc) (hK : va_K D clm (mT ka) s) (hP : va_P D clm (mw ad ka t) H) (hD : va_D A (mw ad ka t)) (hS : va_S A H0 H locs) {r : Nat} (hr : r < 36) {i : Int32} (hi : i = nI r) {v : UInt64} (hdg : decode cc pc = .ok (.dastore, 1)) (kk : ∀ (H1 : Heap) (locs1 : List Loc), va_P D clm (mw ad ka (pD t 1009 r v)) H1 → va_D A (mw ad ka (pD t 1009 r v)) → va_S A H0 H1 locs1 → W p l e R s m args below meth c H1 locs1 cells slots Q (F0 m (pc + 1) ls rest)) : W p l e R s m args below meth c H locs cells slots Q (F0 m pc ls (.double v :: .int i :: .ref (ad 9) :: rest)) := by
  subst hi
  refine va_dast (D := D) hx hb hK hP hD hS 9 2 at_m_score rfl (vp_in_nI hr (by decide)) hdg (fun H1 locs1 h1 h2 h3 => ?_)
  rw [nI_clamp (by omega)] at h1 h2
  exact kk H1 locs1 (s_m_score ▸ h1) (s_m_score ▸ h2) h3
theorem g_m_open (hx : p.tables.exec = Jvm.exec) (hb : c.code = cc) (hK : va_K D clm (mT ka) s) (hP : va_P D clm (mw ad ka t) H) {r : Nat} (hr : r < 3) {i : Int32} (hi : i = nI r) (hdg : decode cc pc = .ok (.baload, 1)) (kk : W p l e R s m args below meth c H locs cells slots Q (F0 m (pc + 1) ls (.int (gI t 1010 r) :: rest))) : W p l e R s m args below meth c H locs cells slots Q (F0 m pc ls (.int i :: .ref (ad 10) :: rest)) := by
  subst hi
  refine va_zald (D := D) hx hb hK hP 10 1 at_m_open rfl (vp_in_nI hr (by decide)) hdg ?_
  rw [nI_clamp (by omega)]
  exact kk
theorem p_m_open (hx : p.tables.exec = Jvm.exec) (hb : c.code = cc) (hK : va_K D clm (mT ka) s) (hP : va_P D clm (mw ad ka t) H) (hD : va_D A (mw ad ka t)) (hS : va_S A H0 H locs) {r : Nat} (hr : r < 3) {i : Int32} (hi : i = nI r) {v : Int32} (hz : b01 v) (hdg : decode cc pc = .ok (.bastore, 1)) (kk : ∀ (H1 : Heap) (locs1 : List Loc), va_P D clm (mw ad ka (pI t 1010 r v)) H1 → va_D A (mw ad ka (pI t 1010 r v)) → va_S A H0 H1 locs1 → W p l e R s m args below meth c H1 locs1 cells slots Q (F0 m (pc + 1) ls rest)) : W p l e R s m args below meth c H locs cells slots Q (F0 m pc ls (.int v :: .int i :: .ref (ad 10) :: rest)) := by
  subst hi
  refine va_zast (D := D) hx hb hK hP hD hS 10 1 at_m_open rfl (vp_in_nI hr (by decide)) hdg (fun H1 locs1 h1 h2 h3 => ?_)
  rw [nI_clamp (by omega), show vp_nar .boolean v = v by rcases hz with rfl | rfl <;> rfl] at h1 h2
  exact kk H1 locs1 (s_m_open ▸ h1) (s_m_open ▸ h2) h3
theorem g_m_watched (hx : p.tables.exec = Jvm.exec) (hb : c.code = cc) (hK : va_K D clm (mT ka) s) (hP : va_P D clm (mw ad ka t) H) {r : Nat} (hr : r < 3) {i : Int32} (hi : i = nI r) (hdg : decode cc pc = .ok (.baload, 1)) (kk : W p l e R s m args below meth c H locs cells slots Q (F0 m (pc + 1) ls (.int (gI t 1011 r) :: rest))) : W p l e R s m args below meth c H locs cells slots Q (F0 m pc ls (.int i :: .ref (ad 11) :: rest)) := by
  subst hi
  refine va_zald (D := D) hx hb hK hP 11 1 at_m_watched rfl (vp_in_nI hr (by decide)) hdg ?_
  rw [nI_clamp (by omega)]
  exact kk
theorem p_m_watched (hx : p.tables.exec = Jvm.exec) (hb : c.code = cc) (hK : va_K D clm (mT ka) s) (hP : va_P D clm (mw ad ka t) H) (hD : va_D A (mw ad ka t)) (hS : va_S A H0 H locs) {r : Nat} (hr : r < 3) {i : Int32} (hi : i = nI r) {v : Int32} (hz : b01 v) (hdg : decode cc pc = .ok (.bastore, 1)) (kk : ∀ (H1 : Heap) (locs1 : List Loc), va_P D clm (mw ad ka (pI t 1011 r v)) H1 → va_D A (mw ad ka (pI t 1011 r v)) → va_S A H0 H1 locs1 → W p l e R s m args below meth c H1 locs1 cells slots Q (F0 m (pc + 1) ls rest)) : W p l e R s m args below meth c H locs cells slots Q (F0 m pc ls (.int v :: .int i :: .ref (ad 11) :: rest)) := by
  subst hi
  refine va_zast (D := D) hx hb hK hP hD hS 11 1 at_m_watched rfl (vp_in_nI hr (by decide)) hdg (fun H1 locs1 h1 h2 h3 => ?_)
  rw [nI_clamp (by omega), show vp_nar .boolean v = v by rcases hz with rfl | rfl <;> rfl] at h1 h2
  exact kk H1 locs1 (s_m_watched ▸ h1) (s_m_watched ▸ h2) h3
theorem g_m_barred (hx : p.tables.exec = Jvm.exec) (hb : c.code = cc) (hK : va_K D clm (mT ka) s) (hP : va_P D clm (mw ad ka t) H) {r : Nat} (hr : r < 30) {i : Int32} (hi : i = nI r) (hdg : decode cc pc = .ok (.baload, 1)) (kk : W p l e R s m args below meth c H locs cells slots Q (F0 m (pc + 1) ls (.int (gI t 1012 r) :: rest))) : W p l e R s m args below meth c H locs cells slots Q (F0 m pc ls (.int i :: .ref (ad 12) :: rest)) := by
  subst hi
  refine va_zald (D := D) hx hb hK hP 12 1 at_m_barred rfl (vp_in_nI hr (by decide)) hdg ?_
  rw [nI_clamp (by omega)]
  exact kk
theorem p_m_barred (hx : p.tables.exec = Jvm.exec) (hb : c.code = cc) (hK : va_K D clm (mT ka) s) (hP : va_P D clm (mw ad ka t) H) (hD : va_D A (mw ad ka t)) (hS : va_S A H0 H locs) {r : Nat} (hr : r < 30) {i : Int32} (hi : i = nI r) {v : Int32} (hz : b01 v) (hdg : decode cc pc = .ok (.bastore, 1)) (kk : ∀ (H1 : Heap) (locs1 : List Loc), va_P D clm (mw ad ka (pI t 1012 r v)) H1 → va_D A (mw ad ka (pI t 1012 r v)) → va_S A H0 H1 locs1 → W p l e R s m args below meth c H1 locs1 cells slots Q (F0 m (pc + 1) ls rest)) : W p l e R s m args below meth c H locs cells slots Q (F0 m pc ls (.int v :: .int i :: .ref (ad 12) :: rest)) := by
  subst hi
  refine va_zast (D := D) hx hb hK hP hD hS 12 1 at_m_barred rfl (vp_in_nI hr (by decide)) hdg (fun H1 locs1 h1 h2 h3 => ?_)
  rw [nI_clamp (by omega), show vp_nar .boolean v = v by rcases hz with rfl | rfl <;> rfl] at h1 h2
  exact kk H1 locs1 (s_m_barred ▸ h1) (s_m_barred ▸ h2) h3
theorem g_m_greatest (hx : p.tables.exec = Jvm.exec) (hb : c.code = cc) (hK : va_K D clm (mT ka) s) (hP : va_P D clm (mw ad ka t) H) {r : Nat} (hr : r < 3) {i : Int32} (hi : i = nI r) (hdg : decode cc pc = .ok (.iaload, 1)) (kk : W p l e R s m args below meth c H locs cells slots Q (F0 m (pc + 1) ls (.int (gI t 1013 r) :: rest))) : W p l e R s m args below meth c H locs cells slots Q (F0 m pc ls (.int i :: .ref (ad 13) :: rest)) := by
  subst hi
  refine va_iald (D := D) hx hb hK hP 13 0 at_m_greatest rfl (vp_in_nI hr (by decide)) hdg ?_
  rw [nI_clamp (by omega)]
  exact kk
theorem p_m_greatest (hx : p.tables.exec = Jvm.exec) (hb : c.code = cc) (hK : va_K D clm (mT ka) s) (hP : va_P D clm (mw ad ka t) H) (hD : va_D A (mw ad ka t)) (hS : va_S A H0 H locs) {r : Nat} (hr : r < 3) {i : Int32} (hi : i = nI r) {v : Int32} (hdg : decode cc pc = .ok (.iastore, 1)) (kk : ∀ (H1 : Heap) (locs1 : List Loc), va_P D clm (mw ad ka (pI t 1013 r v)) H1 → va_D A (mw ad ka (pI t 1013 r v)) → va_S A H0 H1 locs1 → W p l e R s m args below meth c H1 locs1 cells slots Q (F0 m (pc + 1) ls rest)) : W p l e R s m args below meth c H locs cells slots Q (F0 m pc ls (.int v :: .int i :: .ref (ad 13) :: rest)) := by
  subst hi
  refine va_iast (D := D) hx hb hK hP hD hS 13 0 at_m_greatest rfl (vp_in_nI hr (by decide)) hdg (fun H1 locs1 h1 h2 h3 => ?_)
  rw [nI_clamp (by omega)] at h1 h2
  exact kk H1 locs1 (s_m_greatest ▸ h1) (s_m_greatest ▸ h2) h3
theorem g_m_full (hx : p.tables.exec = Jvm.exec) (hb : c.code = cc) (hK : va_K D clm (mT ka) s) (hP : va_P D clm (mw ad ka t) H) {r : Nat} (hr : r < 3) {i : Int32} (hi : i = nI r) (hdg : decode cc pc = .ok (.iaload, 1)) (kk : W p l e R s m args below meth c H locs cells slots Q (F0 m (pc + 1) ls (.int (gI t 1014 r) :: rest))) : W p l e R s m args below meth c H locs cells slots Q (F0 m pc ls (.int i :: .ref (ad 14) :: rest)) := by
  subst hi
  refine va_iald (D := D) hx hb hK hP 14 0 at_m_full rfl (vp_in_nI hr (by decide)) hdg ?_
  rw [nI_clamp (by omega)]
  exact kk
theorem p_m_full (hx : p.tables.exec = Jvm.exec) (hb : c.code = cc) (hK : va_K D clm (mT ka) s) (hP : va_P D clm (mw ad ka t) H) (hD : va_D A (mw ad ka t)) (hS : va_S A H0 H locs) {r : Nat} (hr : r < 3) {i : Int32} (hi : i = nI r) {v : Int32} (hdg : decode cc pc = .ok (.iastore, 1)) (kk : ∀ (H1 : Heap) (locs1 : List Loc), va_P D clm (mw ad ka (pI t 1014 r v)) H1 → va_D A (mw ad ka (pI t 1014 r v)) → va_S A H0 H1 locs1 → W p l e R s m args below meth c H1 locs1 cells slots Q (F0 m (pc + 1) ls rest)) : W p l e R s m args below meth c H locs cells slots Q (F0 m pc ls (.int v :: .int i :: .ref (ad 14) :: rest)) := by
  subst hi
  refine va_iast (D := D) hx hb hK hP hD hS 14 0 at_m_full rfl (vp_in_nI hr (by decide)) hdg (fun H1 locs1 h1 h2 h3 => ?_)
  rw [nI_clamp (by omega)] at h1 h2
  exact kk H1 locs1 (s_m_full ▸ h1) (s_m_full ▸ h2) h3
theorem g_m_best (hx : p.tables.exec = Jvm.exec) (hb : c.code = cc) (hK : va_K D clm (mT ka) s) (hP : va_P D clm (mw ad ka t) H) {r : Nat} (hr : r < 3) {i : Int32} (hi : i = nI r) (hdg : decode cc pc = .ok (.daload, 1)) (kk : W p l e R s m args below meth c H locs cells slots Q (F0 m (pc + 1) ls (.double (gD t 1015 r) :: rest))) : W p l e R s m args below meth c H locs cells slots Q (F0 m pc ls (.int i :: .ref (ad 15) :: rest)) := by
  subst hi
  refine va_dald (D := D) hx hb hK hP 15 2 at_m_best rfl (vp_in_nI hr (by decide)) hdg ?_
  rw [nI_clamp (by omega)]
  exact kk
theorem p_m_best (hx : p.tables.exec = Jvm.exec) (hb : c.code = cc) (hK : va_K D clm (mT ka) s) (hP : va_P D clm (mw ad ka t) H) (hD : va_D A (mw ad ka t)) (hS : va_S A H0 H locs) {r : Nat} (hr : r < 3) {i : Int32} (hi : i = nI r) {v : UInt64} (hdg : decode cc pc = .ok (.dastore, 1)) (kk : ∀ (H1 : Heap) (locs1 : List Loc), va_P D clm (mw ad ka (pD t 1015 r v)) H1 → va_D A (mw ad ka (pD t 1015 r v)) → va_S A H0 H1 locs1 → W p l e R s m args below meth c H1 locs1 cells slots Q (F0 m (pc + 1) ls rest)) : W p l e R s m args below meth c H locs cells slots Q (F0 m pc ls (.double v :: .int i :: .ref (ad 15) :: rest)) := by
  subst hi
  refine va_dast (D := D) hx hb hK hP hD hS 15 2 at_m_best rfl (vp_in_nI hr (by decide)) hdg (fun H1 locs1 h1 h2 h3 => ?_)
  rw [nI_clamp (by omega)] at h1 h2
  exact kk H1 locs1 (s_m_best ▸ h1) (s_m_best ▸ h2) h3
theorem g_m_pList (hx : p.tables.exec = Jvm.exec) (hb : c.code = cc) (hK : va_K D clm (mT ka) s) (hP : va_P D clm (mw ad ka t) H) {r : Nat} (hr : r < 40) {i : Int32} (hi : i = nI r) (hdg : decode cc pc = .ok (.iaload, 1)) (kk : W p l e R s m args below meth c H locs cells slots Q (F0 m (pc + 1) ls (.int (gI t 1016 r) :: rest))) : W p l e R s m args below meth c H locs cells slots Q (F0 m pc ls (.int i :: .ref (ad 16) :: rest)) := by
  subst hi
  refine va_iald (D := D) hx hb hK hP 16 0 at_m_pList rfl (vp_in_nI hr (by decide)) hdg ?_
  rw [nI_clamp (by omega)]
  exact kk
theorem p_m_pList (hx : p.tables.exec = Jvm.exec) (hb : c.code = cc) (hK : va_K D clm (mT ka) s) (hP : va_P D clm (mw ad ka t) H) (hD : va_D A (mw ad ka t)) (hS : va_S A H0 H locs) {r : Nat} (hr : r < 40) {i : Int32} (hi : i = nI r) {v : Int32} (hdg : decode cc pc = .ok (.iastore, 1)) (kk : ∀ (H1 : Heap) (locs1 : List Loc), va_P D clm (mw ad ka (pI t 1016 r v)) H1 → va_D A (mw ad ka (pI t 1016 r v)) → va_S A H0 H1 locs1 → W p l e R s m args below meth c H1 locs1 cells slots Q (F0 m (pc + 1) ls rest)) : W p l e R s m args below meth c H locs cells slots Q (F0 m pc ls (.int v :: .int i :: .ref (ad 16) :: rest)) := by
  subst hi
  refine va_iast (D := D) hx hb hK hP hD hS 16 0 at_m_pList rfl (vp_in_nI hr (by decide)) hdg (fun H1 locs1 h1 h2 h3 => ?_)
  rw [nI_clamp (by omega)] at h1 h2
  exact kk H1 locs1 (s_m_pList ▸ h1) (s_m_pList ▸ h2) h3
theorem g_m_pFrom (hx : p.tables.exec = Jvm.exec) (hb : c.code = cc) (hK : va_K D clm (mT ka) s) (hP : va_P D clm (mw ad ka t) H) {r : Nat} (hr : r < 40) {i : Int32} (hi : i = nI r) (hdg : decode cc pc = .ok (.iaload, 1)) (kk : W p l e R s m args below meth c H locs cells slots Q (F0 m (pc + 1) ls (.int (gI t 1017 r) :: rest))) : W p l e R s m args below meth c H locs cells slots Q (F0 m pc ls (.int i :: .ref (ad 17) :: rest)) := by
  subst hi
  refine va_iald (D := D) hx hb hK hP 17 0 at_m_pFrom rfl (vp_in_nI hr (by decide)) hdg ?_
  rw [nI_clamp (by omega)]
  exact kk
theorem p_m_pFrom (hx : p.tables.exec = Jvm.exec) (hb : c.code = cc) (hK : va_K D clm (mT ka) s) (hP : va_P D clm (mw ad ka t) H) (hD : va_D A (mw ad ka t)) (hS : va_S A H0 H locs) {r : Nat} (hr : r < 40) {i : Int32} (hi : i = nI r) {v : Int32} (hdg : decode cc pc = .ok (.iastore, 1)) (kk : ∀ (H1 : Heap) (locs1 : List Loc), va_P D clm (mw ad ka (pI t 1017 r v)) H1 → va_D A (mw ad ka (pI t 1017 r v)) → va_S A H0 H1 locs1 → W p l e R s m args below meth c H1 locs1 cells slots Q (F0 m (pc + 1) ls rest)) : W p l e R s m args below meth c H locs cells slots Q (F0 m pc ls (.int v :: .int i :: .ref (ad 17) :: rest)) := by
  subst hi
  refine va_iast (D := D) hx hb hK hP hD hS 17 0 at_m_pFrom rfl (vp_in_nI hr (by decide)) hdg (fun H1 locs1 h1 h2 h3 => ?_)
  rw [nI_clamp (by omega)] at h1 h2
  exact kk H1 locs1 (s_m_pFrom ▸ h1) (s_m_pFrom ▸ h2) h3
theorem g_m_pSize (hx : p.tables.exec = Jvm.exec) (hb : c.code = cc) (hK : va_K D clm (mT ka) s) (hP : va_P D clm (mw ad ka t) H) {r : Nat} (hr : r < 40) {i : Int32} (hi : i = nI r) (hdg : decode cc pc = .ok (.iaload, 1)) (kk : W p l e R s m args below meth c H locs cells slots Q (F0 m (pc + 1) ls (.int (gI t 1018 r) :: rest))) : W p l e R s m args below meth c H locs cells slots Q (F0 m pc ls (.int i :: .ref (ad 18) :: rest)) := by
  subst hi
  refine va_iald (D := D) hx hb hK hP 18 0 at_m_pSize rfl (vp_in_nI hr (by decide)) hdg ?_
  rw [nI_clamp (by omega)]
  exact kk
theorem p_m_pSize (hx : p.tables.exec = Jvm.exec) (hb : c.code = cc) (hK : va_K D clm (mT ka) s) (hP : va_P D clm (mw ad ka t) H) (hD : va_D A (mw ad ka t)) (hS : va_S A H0 H locs) {r : Nat} (hr : r < 40) {i : Int32} (hi : i = nI r) {v : Int32} (hdg : decode cc pc = .ok (.iastore, 1)) (kk : ∀ (H1 : Heap) (locs1 : List Loc), va_P D clm (mw ad ka (pI t 1018 r v)) H1 → va_D A (mw ad ka (pI t 1018 r v)) → va_S A H0 H1 locs1 → W p l e R s m args below meth c H1 locs1 cells slots Q (F0 m (pc + 1) ls rest)) : W p l e R s m args below meth c H locs cells slots Q (F0 m pc ls (.int v :: .int i :: .ref (ad 18) :: rest)) := by
  subst hi
  refine va_iast (D := D) hx hb hK hP hD hS 18 0 at_m_pSize rfl (vp_in_nI hr (by decide)) hdg (fun H1 locs1 h1 h2 h3 => ?_)
  rw [nI_clamp (by omega)] at h1 h2
  exact kk H1 locs1 (s_m_pSize ▸ h1) (s_m_pSize ▸ h2) h3
theorem g_m_pState (hx : p.tables.exec = Jvm.exec) (hb : c.code = cc) (hK : va_K D clm (mT ka) s) (hP : va_P D clm (mw ad ka t) H) {r : Nat} (hr : r < 40) {i : Int32} (hi : i = nI r) (hdg : decode cc pc = .ok (.iaload, 1)) (kk : W p l e R s m args below meth c H locs cells slots Q (F0 m (pc + 1) ls (.int (gI t 1019 r) :: rest))) : W p l e R s m args below meth c H locs cells slots Q (F0 m pc ls (.int i :: .ref (ad 19) :: rest)) := by
  subst hi
  refine va_iald (D := D) hx hb hK hP 19 0 at_m_pState rfl (vp_in_nI hr (by decide)) hdg ?_
  rw [nI_clamp (by omega)]
  exact kk
theorem p_m_pState (hx : p.tables.exec = Jvm.exec) (hb : c.code = cc) (hK : va_K D clm (mT ka) s) (hP : va_P D clm (mw ad ka t) H) (hD : va_D A (mw ad ka t)) (hS : va_S A H0 H locs) {r : Nat} (hr : r < 40) {i : Int32} (hi : i = nI r) {v : Int32} (hdg : decode cc pc = .ok (.iastore, 1)) (kk : ∀ (H1 : Heap) (locs1 : List Loc), va_P D clm (mw ad ka (pI t 1019 r v)) H1 → va_D A (mw ad ka (pI t 1019 r v)) → va_S A H0 H1 locs1 → W p l e R s m args below meth c H1 locs1 cells slots Q (F0 m (pc + 1) ls rest)) : W p l e R s m args below meth c H locs cells slots Q (F0 m pc ls (.int v :: .int i :: .ref (ad 19) :: rest)) := by
  subst hi
  refine va_iast (D := D) hx hb hK hP hD hS 19 0 at_m_pState rfl (vp_in_nI hr (by decide)) hdg (fun H1 locs1 h1 h2 h3 => ?_)
  rw [nI_clamp (by omega)] at h1 h2
  exact kk H1 locs1 (s_m_pState ▸ h1) (s_m_pState ▸ h2) h3
theorem g_m_bundle (hx : p.tables.exec = Jvm.exec) (hb : c.code = cc) (hK : va_K D clm (mT ka) s) (hP : va_P D clm (mw ad ka t) H) {r : Nat} (hr : r < 3) {i : Int32} (hi : i = nI r) (hdg : decode cc pc = .ok (.iaload, 1)) (kk : W p l e R s m args below meth c H locs cells slots Q (F0 m (pc + 1) ls (.int (gI t 1020 r) :: rest))) : W p l e R s m args below meth c H locs cells slots Q (F0 m pc ls (.int i :: .ref (ad 20) :: rest)) := by
  subst hi
  refine va_iald (D := D) hx hb hK hP 20 0 at_m_bundle rfl (vp_in_nI hr (by decide)) hdg ?_
  rw [nI_clamp (by omega)]
  exact kk
theorem p_m_bundle (hx : p.tables.exec = Jvm.exec) (hb : c.code = cc) (hK : va_K D clm (mT ka) s) (hP : va_P D clm (mw ad ka t) H) (hD : va_D A (mw ad ka t)) (hS : va_S A H0 H locs) {r : Nat} (hr : r < 3) {i : Int32} (hi : i = nI r) {v : Int32} (hdg : decode cc pc = .ok (.iastore, 1)) (kk : ∀ (H1 : Heap) (locs1 : List Loc), va_P D clm (mw ad ka (pI t 1020 r v)) H1 → va_D A (mw ad ka (pI t 1020 r v)) → va_S A H0 H1 locs1 → W p l e R s m args below meth c H1 locs1 cells slots Q (F0 m (pc + 1) ls rest)) : W p l e R s m args below meth c H locs cells slots Q (F0 m pc ls (.int v :: .int i :: .ref (ad 20) :: rest)) := by
  subst hi
  refine va_iast (D := D) hx hb hK hP hD hS 20 0 at_m_bundle rfl (vp_in_nI hr (by decide)) hdg (fun H1 locs1 h1 h2 h3 => ?_)
  rw [nI_clamp (by omega)] at h1 h2
  exact kk H1 locs1 (s_m_bundle ▸ h1) (s_m_bundle ▸ h2) h3
theorem g_m_bSize (hx : p.tables.exec = Jvm.exec) (hb : c.code = cc) (hK : va_K D clm (mT ka) s) (hP : va_P D clm (mw ad ka t) H) {r : Nat} (hr : r < 120) {i : Int32} (hi : i = nI r) (hdg : decode cc pc = .ok (.iaload, 1)) (kk : W p l e R s m args below meth c H locs cells slots Q (F0 m (pc + 1) ls (.int (gI t 1021 r) :: rest))) : W p l e R s m args below meth c H locs cells slots Q (F0 m pc ls (.int i :: .ref (ad 21) :: rest)) := by
  subst hi
  refine va_iald (D := D) hx hb hK hP 21 0 at_m_bSize rfl (vp_in_nI hr (by decide)) hdg ?_
  rw [nI_clamp (by omega)]
  exact kk
theorem p_m_bSize (hx : p.tables.exec = Jvm.exec) (hb : c.code = cc) (hK : va_K D clm (mT ka) s) (hP : va_P D clm (mw ad ka t) H) (hD : va_D A (mw ad ka t)) (hS : va_S A H0 H locs) {r : Nat} (hr : r < 120) {i : Int32} (hi : i = nI r) {v : Int32} (hdg : decode cc pc = .ok (.iastore, 1)) (kk : ∀ (H1 : Heap) (locs1 : List Loc), va_P D clm (mw ad ka (pI t 1021 r v)) H1 → va_D A (mw ad ka (pI t 1021 r v)) → va_S A H0 H1 locs1 → W p l e R s m args below meth c H1 locs1 cells slots Q (F0 m (pc + 1) ls rest)) : W p l e R s m args below meth c H locs cells slots Q (F0 m pc ls (.int v :: .int i :: .ref (ad 21) :: rest)) := by
  subst hi
  refine va_iast (D := D) hx hb hK hP hD hS 21 0 at_m_bSize rfl (vp_in_nI hr (by decide)) hdg (fun H1 locs1 h1 h2 h3 => ?_)
  rw [nI_clamp (by omega)] at h1 h2
  exact kk H1 locs1 (s_m_bSize ▸ h1) (s_m_bSize ▸ h2) h3
theorem g_m_bDay (hx : p.tables.exec = Jvm.exec) (hb : c.code = cc) (hK : va_K D clm (mT ka) s) (hP : va_P D clm (mw ad ka t) H) {r : Nat} (hr : r < 120) {i : Int32} (hi : i = nI r) (hdg : decode cc pc = .ok (.iaload, 1)) (kk : W p l e R s m args below meth c H locs cells slots Q (F0 m (pc + 1) ls (.int (gI t 1022 r) :: rest))) : W p l e R s m args below meth c H locs cells slots Q (F0 m pc ls (.int i :: .ref (ad 22) :: rest)) := by
  subst hi
  refine va_iald (D := D) hx hb hK hP 22 0 at_m_bDay rfl (vp_in_nI hr (by decide)) hdg ?_
  rw [nI_clamp (by omega)]
  exact kk
theorem p_m_bDay (hx : p.tables.exec = Jvm.exec) (hb : c.code = cc) (hK : va_K D clm (mT ka) s) (hP : va_P D clm (mw ad ka t) H) (hD : va_D A (mw ad ka t)) (hS : va_S A H0 H locs) {r : Nat} (hr : r < 120) {i : Int32} (hi : i = nI r) {v : Int32} (hdg : decode cc pc = .ok (.iastore, 1)) (kk : ∀ (H1 : Heap) (locs1 : List Loc), va_P D clm (mw ad ka (pI t 1022 r v)) H1 → va_D A (mw ad ka (pI t 1022 r v)) → va_S A H0 H1 locs1 → W p l e R s m args below meth c H1 locs1 cells slots Q (F0 m (pc + 1) ls rest)) : W p l e R s m args below meth c H locs cells slots Q (F0 m pc ls (.int v :: .int i :: .ref (ad 22) :: rest)) := by
  subst hi
  refine va_iast (D := D) hx hb hK hP hD hS 22 0 at_m_bDay rfl (vp_in_nI hr (by decide)) hdg (fun H1 locs1 h1 h2 h3 => ?_)
  rw [nI_clamp (by omega)] at h1 h2
  exact kk H1 locs1 (s_m_bDay ▸ h1) (s_m_bDay ▸ h2) h3
theorem g_m_outTo (hx : p.tables.exec = Jvm.exec) (hb : c.code = cc) (hK : va_K D clm (mT ka) s) (hP : va_P D clm (mw ad ka t) H) {r : Nat} (hr : r < 60) {i : Int32} (hi : i = nI r) (hdg : decode cc pc = .ok (.iaload, 1)) (kk : W p l e R s m args below meth c H locs cells slots Q (F0 m (pc + 1) ls (.int (gI t 1023 r) :: rest))) : W p l e R s m args below meth c H locs cells slots Q (F0 m pc ls (.int i :: .ref (ad 23) :: rest)) := by
  subst hi
  refine va_iald (D := D) hx hb hK hP 23 0 at_m_outTo rfl (vp_in_nI hr (by decide)) hdg ?_
  rw [nI_clamp (by omega)]
  exact kk
theorem p_m_outTo (hx : p.tables.exec = Jvm.exec) (hb : c.code = cc) (hK : va_K D clm (mT ka) s) (hP : va_P D clm (mw ad ka t) H) (hD : va_D A (mw ad ka t)) (hS : va_S A H0 H locs) {r : Nat} (hr : r < 60) {i : Int32} (hi : i = nI r) {v : Int32} (hdg : decode cc pc = .ok (.iastore, 1)) (kk : ∀ (H1 : Heap) (locs1 : List Loc), va_P D clm (mw ad ka (pI t 1023 r v)) H1 → va_D A (mw ad ka (pI t 1023 r v)) → va_S A H0 H1 locs1 → W p l e R s m args below meth c H1 locs1 cells slots Q (F0 m (pc + 1) ls rest)) : W p l e R s m args below meth c H locs cells slots Q (F0 m pc ls (.int v :: .int i :: .ref (ad 23) :: rest)) := by
  subst hi
  refine va_iast (D := D) hx hb hK hP hD hS 23 0 at_m_outTo rfl (vp_in_nI hr (by decide)) hdg (fun H1 locs1 h1 h2 h3 => ?_)
  rw [nI_clamp (by omega)] at h1 h2
  exact kk H1 locs1 (s_m_outTo ▸ h1) (s_m_outTo ▸ h2) h3
theorem g_m_outList (hx : p.tables.exec = Jvm.exec) (hb : c.code = cc) (hK : va_K D clm (mT ka) s) (hP : va_P D clm (mw ad ka t) H) {r : Nat} (hr : r < 60) {i : Int32} (hi : i = nI r) (hdg : decode cc pc = .ok (.iaload, 1)) (kk : W p l e R s m args below meth c H locs cells slots Q (F0 m (pc + 1) ls (.int (gI t 1024 r) :: rest))) : W p l e R s m args below meth c H locs cells slots Q (F0 m pc ls (.int i :: .ref (ad 24) :: rest)) := by
  subst hi
  refine va_iald (D := D) hx hb hK hP 24 0 at_m_outList rfl (vp_in_nI hr (by decide)) hdg ?_
  rw [nI_clamp (by omega)]
  exact kk
theorem p_m_outList (hx : p.tables.exec = Jvm.exec) (hb : c.code = cc) (hK : va_K D clm (mT ka) s) (hP : va_P D clm (mw ad ka t) H) (hD : va_D A (mw ad ka t)) (hS : va_S A H0 H locs) {r : Nat} (hr : r < 60) {i : Int32} (hi : i = nI r) {v : Int32} (hdg : decode cc pc = .ok (.iastore, 1)) (kk : ∀ (H1 : Heap) (locs1 : List Loc), va_P D clm (mw ad ka (pI t 1024 r v)) H1 → va_D A (mw ad ka (pI t 1024 r v)) → va_S A H0 H1 locs1 → W p l e R s m args below meth c H1 locs1 cells slots Q (F0 m (pc + 1) ls rest)) : W p l e R s m args below meth c H locs cells slots Q (F0 m pc ls (.int v :: .int i :: .ref (ad 24) :: rest)) := by
  subst hi
  refine va_iast (D := D) hx hb hK hP hD hS 24 0 at_m_outList rfl (vp_in_nI hr (by decide)) hdg (fun H1 locs1 h1 h2 h3 => ?_)
  rw [nI_clamp (by omega)] at h1 h2
  exact kk H1 locs1 (s_m_outList ▸ h1) (s_m_outList ▸ h2) h3
theorem g_m_outSort (hx : p.tables.exec = Jvm.exec) (hb : c.code = cc) (hK : va_K D clm (mT ka) s) (hP : va_P D clm (mw ad ka t) H) {r : Nat} (hr : r < 60) {i : Int32} (hi : i = nI r) (hdg : decode cc pc = .ok (.iaload, 1)) (kk : W p l e R s m args below meth c H locs cells slots Q (F0 m (pc + 1) ls (.int (gI t 1025 r) :: rest))) : W p l e R s m args below meth c H locs cells slots Q (F0 m pc ls (.int i :: .ref (ad 25) :: rest)) := by
  subst hi
  refine va_iald (D := D) hx hb hK hP 25 0 at_m_outSort rfl (vp_in_nI hr (by decide)) hdg ?_
  rw [nI_clamp (by omega)]
  exact kk
theorem p_m_outSort (hx : p.tables.exec = Jvm.exec) (hb : c.code = cc) (hK : va_K D clm (mT ka) s) (hP : va_P D clm (mw ad ka t) H) (hD : va_D A (mw ad ka t)) (hS : va_S A H0 H locs) {r : Nat} (hr : r < 60) {i : Int32} (hi : i = nI r) {v : Int32} (hdg : decode cc pc = .ok (.iastore, 1)) (kk : ∀ (H1 : Heap) (locs1 : List Loc), va_P D clm (mw ad ka (pI t 1025 r v)) H1 → va_D A (mw ad ka (pI t 1025 r v)) → va_S A H0 H1 locs1 → W p l e R s m args below meth c H1 locs1 cells slots Q (F0 m (pc + 1) ls rest)) : W p l e R s m args below meth c H locs cells slots Q (F0 m pc ls (.int v :: .int i :: .ref (ad 25) :: rest)) := by
  subst hi
  refine va_iast (D := D) hx hb hK hP hD hS 25 0 at_m_outSort rfl (vp_in_nI hr (by decide)) hdg (fun H1 locs1 h1 h2 h3 => ?_)
  rw [nI_clamp (by omega)] at h1 h2
  exact kk H1 locs1 (s_m_outSort ▸ h1) (s_m_outSort ▸ h2) h3
theorem g_m_outNumber (hx : p.tables.exec = Jvm.exec) (hb : c.code = cc) (hK : va_K D clm (mT ka) s) (hP : va_P D clm (mw ad ka t) H) {r : Nat} (hr : r < 60) {i : Int32} (hi : i = nI r) (hdg : decode cc pc = .ok (.iaload, 1)) (kk : W p l e R s m args below meth c H locs cells slots Q (F0 m (pc + 1) ls (.int (gI t 1026 r) :: rest))) : W p l e R s m args below meth c H locs cells slots Q (F0 m pc ls (.int i :: .ref (ad 26) :: rest)) := by
  subst hi
  refine va_iald (D := D) hx hb hK hP 26 0 at_m_outNumber rfl (vp_in_nI hr (by decide)) hdg ?_
  rw [nI_clamp (by omega)]
  exact kk
theorem p_m_outNumber (hx : p.tables.exec = Jvm.exec) (hb : c.code = cc) (hK : va_K D clm (mT ka) s) (hP : va_P D clm (mw ad ka t) H) (hD : va_D A (mw ad ka t)) (hS : va_S A H0 H locs) {r : Nat} (hr : r < 60) {i : Int32} (hi : i = nI r) {v : Int32} (hdg : decode cc pc = .ok (.iastore, 1)) (kk : ∀ (H1 : Heap) (locs1 : List Loc), va_P D clm (mw ad ka (pI t 1026 r v)) H1 → va_D A (mw ad ka (pI t 1026 r v)) → va_S A H0 H1 locs1 → W p l e R s m args below meth c H1 locs1 cells slots Q (F0 m (pc + 1) ls rest)) : W p l e R s m args below meth c H locs cells slots Q (F0 m pc ls (.int v :: .int i :: .ref (ad 26) :: rest)) := by
  subst hi
  refine va_iast (D := D) hx hb hK hP hD hS 26 0 at_m_outNumber rfl (vp_in_nI hr (by decide)) hdg (fun H1 locs1 h1 h2 h3 => ?_)
  rw [nI_clamp (by omega)] at h1 h2
  exact kk H1 locs1 (s_m_outNumber ▸ h1) (s_m_outNumber ▸ h2) h3
end RWM
