/-! ===== PHASE 2: the model's rules over KI ===== -/
section PA10
variable {β : Type} {M : zM} {F : Nat → Nat → Int32} {f0 : Int32 → zP β} {i j k n m t q : Nat} {v x : Int32}
theorem kn_gI {f : Int32 → zP β} (h : L9 M) : (z_bd (z_gI 9 75 k) f).1 (KI M F) = (f (F 75 k)).1 (KI M F) := q9_gI (M := KI M F) h
theorem kn_pI {f : Unit → zP β} (h : L9 M) : (z_bd (z_pI 9 75 k v) f).1 (KI M F) = (f ()).1 (KI M (z_up2 F 75 k v)) := q9_pI (M := KI M F) h
theorem kn_cv {α : Type} {p : zP α} {f : α → zP β} (h : L9 M) : (z_bd (z_cv 9 75 p) f).1 (KI M F) = (z_bd p f).1 (KI M F) := q9_cv (M := KI M F) h
theorem kn_g76 {f : Nat → zP β} (h : L9 M) : (z_bd (z_gA 9 75 1) f).1 (KI M F) = (f 76).1 (KI M F) := q9_g76 (M := KI M F) h
theorem kn_a76 {f : Int32 → zP β} (h : L9 M) (hk : k < 700) : (z_bd (z_aI 10 76 (nI k)) f).1 (KI M F) = (f (F 76 k)).1 (KI M F) := q9_a76 (M := KI M F) h hk
theorem kn_s76 {f : Unit → zP β} (h : L9 M) (hk : k < 700) : (z_bd (z_sB 76 (nI k) v) f).1 (KI M F) = (f ()).1 (KI M (z_up2 F 76 k v.toInt8.toInt32)) := q9_s76 (M := KI M F) h hk
theorem kn_g77 {f : Nat → zP β} (h : L9 M) : (z_bd (z_gA 9 75 10) f).1 (KI M F) = (f 77).1 (KI M F) := q9_g77 (M := KI M F) h
theorem kn_a77 {f : Int32 → zP β} (h : L9 M) (hk : k < 138) : (z_bd (z_aI 11 77 (nI k)) f).1 (KI M F) = (f (F 77 k)).1 (KI M F) := q9_a77 (M := KI M F) h hk
theorem kn_s77 {f : Unit → zP β} (h : L9 M) (hk : k < 138) : (z_bd (z_sI 11 77 (nI k) v) f).1 (KI M F) = (f ()).1 (KI M (z_up2 F 77 k v)) := q9_s77 (M := KI M F) h hk
theorem kn_g78 {f : Nat → zP β} (h : L9 M) : (z_bd (z_gA 9 75 11) f).1 (KI M F) = (f 78).1 (KI M F) := q9_g78 (M := KI M F) h
theorem kn_a78 {f : Int32 → zP β} (h : L9 M) (hk : k < 138) : (z_bd (z_aI 11 78 (nI k)) f).1 (KI M F) = (f (F 78 k)).1 (KI M F) := q9_a78 (M := KI M F) h hk
theorem kn_s78 {f : Unit → zP β} (h : L9 M) (hk : k < 138) : (z_bd (z_sI 11 78 (nI k) v) f).1 (KI M F) = (f ()).1 (KI M (z_up2 F 78 k v)) := q9_s78 (M := KI M F) h hk
theorem kn_g79 {f : Nat → zP β} (h : L9 M) : (z_bd (z_gA 9 75 12) f).1 (KI M F) = (f 79).1 (KI M F) := q9_g79 (M := KI M F) h
theorem kn_a79 {f : Int32 → zP β} (h : L9 M) (hk : k < 700) : (z_bd (z_aI 11 79 (nI k)) f).1 (KI M F) = (f (F 79 k)).1 (KI M F) := q9_a79 (M := KI M F) h hk
theorem kn_s79 {f : Unit → zP β} (h : L9 M) (hk : k < 700) : (z_bd (z_sI 11 79 (nI k) v) f).1 (KI M F) = (f ()).1 (KI M (z_up2 F 79 k v)) := q9_s79 (M := KI M F) h hk
theorem kn_g80 {f : Nat → zP β} (h : L9 M) : (z_bd (z_gA 9 75 13) f).1 (KI M F) = (f 80).1 (KI M F) := q9_g80 (M := KI M F) h
theorem kn_a80 {f : Int32 → zP β} (h : L9 M) (hk : k < 700) : (z_bd (z_aI 11 80 (nI k)) f).1 (KI M F) = (f (F 80 k)).1 (KI M F) := q9_a80 (M := KI M F) h hk
theorem kn_s80 {f : Unit → zP β} (h : L9 M) (hk : k < 700) : (z_bd (z_sI 11 80 (nI k) v) f).1 (KI M F) = (f ()).1 (KI M (z_up2 F 80 k v)) := q9_s80 (M := KI M F) h hk
theorem kn_g81 {f : Nat → zP β} (h : L9 M) : (z_bd (z_gA 9 75 15) f).1 (KI M F) = (f 81).1 (KI M F) := q9_g81 (M := KI M F) h
theorem kn_a81 {f : Int32 → zP β} (h : L9 M) (hk : k < 700) : (z_bd (z_aI 11 81 (nI k)) f).1 (KI M F) = (f (F 81 k)).1 (KI M F) := q9_a81 (M := KI M F) h hk
theorem kn_s81 {f : Unit → zP β} (h : L9 M) (hk : k < 700) : (z_bd (z_sI 11 81 (nI k) v) f).1 (KI M F) = (f ()).1 (KI M (z_up2 F 81 k v)) := q9_s81 (M := KI M F) h hk
theorem kn_g82 {f : Nat → zP β} (h : L9 M) : (z_bd (z_gA 9 75 18) f).1 (KI M F) = (f 82).1 (KI M F) := q9_g82 (M := KI M F) h
theorem kn_a82 {f : Int32 → zP β} (h : L9 M) (hk : k < 700) : (z_bd (z_aI 11 82 (nI k)) f).1 (KI M F) = (f (F 82 k)).1 (KI M F) := q9_a82 (M := KI M F) h hk
theorem kn_s82 {f : Unit → zP β} (h : L9 M) (hk : k < 700) : (z_bd (z_sI 11 82 (nI k) v) f).1 (KI M F) = (f ()).1 (KI M (z_up2 F 82 k v)) := q9_s82 (M := KI M F) h hk
theorem kn_g83 {f : Nat → zP β} (h : L9 M) : (z_bd (z_gA 9 75 19) f).1 (KI M F) = (f 83).1 (KI M F) := q9_g83 (M := KI M F) h
theorem kn_a83 {f : Int32 → zP β} (h : L9 M) (hk : k < 3277) : (z_bd (z_aI 11 83 (nI k)) f).1 (KI M F) = (f (F 83 k)).1 (KI M F) := q9_a83 (M := KI M F) h hk
theorem kn_s83 {f : Unit → zP β} (h : L9 M) (hk : k < 3277) : (z_bd (z_sI 11 83 (nI k) v) f).1 (KI M F) = (f ()).1 (KI M (z_up2 F 83 k v)) := q9_s83 (M := KI M F) h hk
theorem kn_g84 {f : Nat → zP β} (h : L9 M) : (z_bd (z_gA 9 75 20) f).1 (KI M F) = (f 84).1 (KI M F) := q9_g84 (M := KI M F) h
theorem kn_a84 {f : Int32 → zP β} (h : L9 M) (hk : k < 32770) : (z_bd (z_aI 11 84 (nI k)) f).1 (KI M F) = (f (F 84 k)).1 (KI M F) := q9_a84 (M := KI M F) h hk
theorem kn_s84 {f : Unit → zP β} (h : L9 M) (hk : k < 32770) : (z_bd (z_sI 11 84 (nI k) v) f).1 (KI M F) = (f ()).1 (KI M (z_up2 F 84 k v)) := q9_s84 (M := KI M F) h hk
theorem kn_g85 {f : Nat → zP β} (h : L9 M) : (z_bd (z_gA 9 75 22) f).1 (KI M F) = (f 85).1 (KI M F) := q9_g85 (M := KI M F) h
theorem kn_a85 {f : Int32 → zP β} (h : L9 M) (hk : k < 6554) : (z_bd (z_aI 11 85 (nI k)) f).1 (KI M F) = (f (F 85 k)).1 (KI M F) := q9_a85 (M := KI M F) h hk
theorem kn_s85 {f : Unit → zP β} (h : L9 M) (hk : k < 6554) : (z_bd (z_sI 11 85 (nI k) v) f).1 (KI M F) = (f ()).1 (KI M (z_up2 F 85 k v)) := q9_s85 (M := KI M F) h hk
theorem kn_g86 {f : Nat → zP β} (h : L9 M) : (z_bd (z_gA 9 75 23) f).1 (KI M F) = (f 86).1 (KI M F) := q9_g86 (M := KI M F) h
theorem kn_g87 {f : Nat → zP β} (h : L9 M) : (z_bd (z_gA 9 75 24) f).1 (KI M F) = (f 87).1 (KI M F) := q9_g87 (M := KI M F) h
theorem kn_a87 {f : Int32 → zP β} (h : L9 M) (hk : k < 3277) : (z_bd (z_aI 11 87 (nI k)) f).1 (KI M F) = (f (F 87 k)).1 (KI M F) := q9_a87 (M := KI M F) h hk
theorem kn_s87 {f : Unit → zP β} (h : L9 M) (hk : k < 3277) : (z_bd (z_sI 11 87 (nI k) v) f).1 (KI M F) = (f ()).1 (KI M (z_up2 F 87 k v)) := q9_s87 (M := KI M F) h hk
theorem kn_g88 {f : Nat → zP β} (h : L9 M) : (z_bd (z_gA 9 75 25) f).1 (KI M F) = (f 88).1 (KI M F) := q9_g88 (M := KI M F) h
theorem kn_a88 {f : Int32 → zP β} (h : L9 M) (hk : k < 8) : (z_bd (z_aI 11 88 (nI k)) f).1 (KI M F) = (f (F 88 k)).1 (KI M F) := q9_a88 (M := KI M F) h hk
theorem kn_s88 {f : Unit → zP β} (h : L9 M) (hk : k < 8) : (z_bd (z_sI 11 88 (nI k) v) f).1 (KI M F) = (f ()).1 (KI M (z_up2 F 88 k v)) := q9_s88 (M := KI M F) h hk
theorem kn_g89 {f : Nat → zP β} (h : L9 M) : (z_bd (z_gA 9 75 26) f).1 (KI M F) = (f 89).1 (KI M F) := q9_g89 (M := KI M F) h
theorem kn_a89 {f : Int32 → zP β} (h : L9 M) (hk : k < 8) : (z_bd (z_aI 11 89 (nI k)) f).1 (KI M F) = (f (F 89 k)).1 (KI M F) := q9_a89 (M := KI M F) h hk
theorem kn_s89 {f : Unit → zP β} (h : L9 M) (hk : k < 8) : (z_bd (z_sI 11 89 (nI k) v) f).1 (KI M F) = (f ()).1 (KI M (z_up2 F 89 k v)) := q9_s89 (M := KI M F) h hk
theorem kn_g90 {f : Nat → zP β} (h : L9 M) : (z_bd (z_gA 9 75 29) f).1 (KI M F) = (f 90).1 (KI M F) := q9_g90 (M := KI M F) h
theorem kn_a90 {f : Int32 → zP β} (h : L9 M) (hk : k < 9) : (z_bd (z_aI 11 90 (nI k)) f).1 (KI M F) = (f (F 90 k)).1 (KI M F) := q9_a90 (M := KI M F) h hk
theorem kn_s90 {f : Unit → zP β} (h : L9 M) (hk : k < 9) : (z_bd (z_sI 11 90 (nI k) v) f).1 (KI M F) = (f ()).1 (KI M (z_up2 F 90 k v)) := q9_s90 (M := KI M F) h hk
theorem kn_g91 {f : Nat → zP β} (h : L9 M) : (z_bd (z_gA 9 75 30) f).1 (KI M F) = (f 91).1 (KI M F) := q9_g91 (M := KI M F) h
theorem kn_a91 {f : Int32 → zP β} (h : L9 M) (hk : k < 9) : (z_bd (z_aI 11 91 (nI k)) f).1 (KI M F) = (f (F 91 k)).1 (KI M F) := q9_a91 (M := KI M F) h hk
theorem kn_s91 {f : Unit → zP β} (h : L9 M) (hk : k < 9) : (z_bd (z_sI 11 91 (nI k) v) f).1 (KI M F) = (f ()).1 (KI M (z_up2 F 91 k v)) := q9_s91 (M := KI M F) h hk
theorem kn_g92 {f : Nat → zP β} (h : L9 M) : (z_bd (z_gA 9 75 31) f).1 (KI M F) = (f 92).1 (KI M F) := q9_g92 (M := KI M F) h
theorem kn_a92 {f : Int32 → zP β} (h : L9 M) (hk : k < 9) : (z_bd (z_aI 11 92 (nI k)) f).1 (KI M F) = (f (F 92 k)).1 (KI M F) := q9_a92 (M := KI M F) h hk
theorem kn_s92 {f : Unit → zP β} (h : L9 M) (hk : k < 9) : (z_bd (z_sI 11 92 (nI k) v) f).1 (KI M F) = (f ()).1 (KI M (z_up2 F 92 k v)) := q9_s92 (M := KI M F) h hk
theorem kn_g93 {f : Nat → zP β} (h : L9 M) : (z_bd (z_gA 9 75 32) f).1 (KI M F) = (f 93).1 (KI M F) := q9_g93 (M := KI M F) h
theorem kn_a93 {f : Int32 → zP β} (h : L9 M) (hk : k < 9) : (z_bd (z_aI 11 93 (nI k)) f).1 (KI M F) = (f (F 93 k)).1 (KI M F) := q9_a93 (M := KI M F) h hk
theorem kn_s93 {f : Unit → zP β} (h : L9 M) (hk : k < 9) : (z_bd (z_sI 11 93 (nI k) v) f).1 (KI M F) = (f ()).1 (KI M (z_up2 F 93 k v)) := q9_s93 (M := KI M F) h hk
theorem kn_g94 {f : Nat → zP β} (h : L9 M) : (z_bd (z_gA 9 75 33) f).1 (KI M F) = (f 94).1 (KI M F) := q9_g94 (M := KI M F) h
theorem kn_a94 {f : Int32 → zP β} (h : L9 M) (hk : k < 9) : (z_bd (z_aI 11 94 (nI k)) f).1 (KI M F) = (f (F 94 k)).1 (KI M F) := q9_a94 (M := KI M F) h hk
theorem kn_s94 {f : Unit → zP β} (h : L9 M) (hk : k < 9) : (z_bd (z_sI 11 94 (nI k) v) f).1 (KI M F) = (f ()).1 (KI M (z_up2 F 94 k v)) := q9_s94 (M := KI M F) h hk
theorem kn_l77_0 {f : Int32 → zP β} (h : L9 M) : (z_bd (z_aI 11 77 0) f).1 (KI M F) = (f (F 77 0)).1 (KI M F) := kn_a77 (k := 0) h (by decide)
theorem kn_t77_0 {f : Unit → zP β} (h : L9 M) : (z_bd (z_sI 11 77 0 v) f).1 (KI M F) = (f ()).1 (KI M (z_up2 F 77 0 v)) := kn_s77 (k := 0) h (by decide)
theorem kn_l77_1 {f : Int32 → zP β} (h : L9 M) : (z_bd (z_aI 11 77 1) f).1 (KI M F) = (f (F 77 1)).1 (KI M F) := kn_a77 (k := 1) h (by decide)
theorem kn_t77_1 {f : Unit → zP β} (h : L9 M) : (z_bd (z_sI 11 77 1 v) f).1 (KI M F) = (f ()).1 (KI M (z_up2 F 77 1 v)) := kn_s77 (k := 1) h (by decide)
theorem kn_l77_2 {f : Int32 → zP β} (h : L9 M) : (z_bd (z_aI 11 77 2) f).1 (KI M F) = (f (F 77 2)).1 (KI M F) := kn_a77 (k := 2) h (by decide)
theorem kn_t77_2 {f : Unit → zP β} (h : L9 M) : (z_bd (z_sI 11 77 2 v) f).1 (KI M F) = (f ()).1 (KI M (z_up2 F 77 2 v)) := kn_s77 (k := 2) h (by decide)
theorem kn_l77_3 {f : Int32 → zP β} (h : L9 M) : (z_bd (z_aI 11 77 3) f).1 (KI M F) = (f (F 77 3)).1 (KI M F) := kn_a77 (k := 3) h (by decide)
theorem kn_t77_3 {f : Unit → zP β} (h : L9 M) : (z_bd (z_sI 11 77 3 v) f).1 (KI M F) = (f ()).1 (KI M (z_up2 F 77 3 v)) := kn_s77 (k := 3) h (by decide)
theorem kn_l77_4 {f : Int32 → zP β} (h : L9 M) : (z_bd (z_aI 11 77 4) f).1 (KI M F) = (f (F 77 4)).1 (KI M F) := kn_a77 (k := 4) h (by decide)
theorem kn_t77_4 {f : Unit → zP β} (h : L9 M) : (z_bd (z_sI 11 77 4 v) f).1 (KI M F) = (f ()).1 (KI M (z_up2 F 77 4 v)) := kn_s77 (k := 4) h (by decide)
theorem kn_l77_5 {f : Int32 → zP β} (h : L9 M) : (z_bd (z_aI 11 77 5) f).1 (KI M F) = (f (F 77 5)).1 (KI M F) := kn_a77 (k := 5) h (by decide)
theorem kn_t77_5 {f : Unit → zP β} (h : L9 M) : (z_bd (z_sI 11 77 5 v) f).1 (KI M F) = (f ()).1 (KI M (z_up2 F 77 5 v)) := kn_s77 (k := 5) h (by decide)
theorem kn_l77_6 {f : Int32 → zP β} (h : L9 M) : (z_bd (z_aI 11 77 6) f).1 (KI M F) = (f (F 77 6)).1 (KI M F) := kn_a77 (k := 6) h (by decide)
theorem kn_t77_6 {f : Unit → zP β} (h : L9 M) : (z_bd (z_sI 11 77 6 v) f).1 (KI M F) = (f ()).1 (KI M (z_up2 F 77 6 v)) := kn_s77 (k := 6) h (by decide)
theorem kn_l77_7 {f : Int32 → zP β} (h : L9 M) : (z_bd (z_aI 11 77 7) f).1 (KI M F) = (f (F 77 7)).1 (KI M F) := kn_a77 (k := 7) h (by decide)
theorem kn_t77_7 {f : Unit → zP β} (h : L9 M) : (z_bd (z_sI 11 77 7 v) f).1 (KI M F) = (f ()).1 (KI M (z_up2 F 77 7 v)) := kn_s77 (k := 7) h (by decide)
theorem kn_l77_8 {f : Int32 → zP β} (h : L9 M) : (z_bd (z_aI 11 77 8) f).1 (KI M F) = (f (F 77 8)).1 (KI M F) := kn_a77 (k := 8) h (by decide)
theorem kn_t77_8 {f : Unit → zP β} (h : L9 M) : (z_bd (z_sI 11 77 8 v) f).1 (KI M F) = (f ()).1 (KI M (z_up2 F 77 8 v)) := kn_s77 (k := 8) h (by decide)
theorem kn_l78_0 {f : Int32 → zP β} (h : L9 M) : (z_bd (z_aI 11 78 0) f).1 (KI M F) = (f (F 78 0)).1 (KI M F) := kn_a78 (k := 0) h (by decide)
theorem kn_t78_0 {f : Unit → zP β} (h : L9 M) : (z_bd (z_sI 11 78 0 v) f).1 (KI M F) = (f ()).1 (KI M (z_up2 F 78 0 v)) := kn_s78 (k := 0) h (by decide)
theorem kn_l78_1 {f : Int32 → zP β} (h : L9 M) : (z_bd (z_aI 11 78 1) f).1 (KI M F) = (f (F 78 1)).1 (KI M F) := kn_a78 (k := 1) h (by decide)
theorem kn_t78_1 {f : Unit → zP β} (h : L9 M) : (z_bd (z_sI 11 78 1 v) f).1 (KI M F) = (f ()).1 (KI M (z_up2 F 78 1 v)) := kn_s78 (k := 1) h (by decide)
theorem kn_l78_2 {f : Int32 → zP β} (h : L9 M) : (z_bd (z_aI 11 78 2) f).1 (KI M F) = (f (F 78 2)).1 (KI M F) := kn_a78 (k := 2) h (by decide)
theorem kn_t78_2 {f : Unit → zP β} (h : L9 M) : (z_bd (z_sI 11 78 2 v) f).1 (KI M F) = (f ()).1 (KI M (z_up2 F 78 2 v)) := kn_s78 (k := 2) h (by decide)
theorem kn_l78_3 {f : Int32 → zP β} (h : L9 M) : (z_bd (z_aI 11 78 3) f).1 (KI M F) = (f (F 78 3)).1 (KI M F) := kn_a78 (k := 3) h (by decide)
theorem kn_t78_3 {f : Unit → zP β} (h : L9 M) : (z_bd (z_sI 11 78 3 v) f).1 (KI M F) = (f ()).1 (KI M (z_up2 F 78 3 v)) := kn_s78 (k := 3) h (by decide)
theorem kn_l78_4 {f : Int32 → zP β} (h : L9 M) : (z_bd (z_aI 11 78 4) f).1 (KI M F) = (f (F 78 4)).1 (KI M F) := kn_a78 (k := 4) h (by decide)
theorem kn_t78_4 {f : Unit → zP β} (h : L9 M) : (z_bd (z_sI 11 78 4 v) f).1 (KI M F) = (f ()).1 (KI M (z_up2 F 78 4 v)) := kn_s78 (k := 4) h (by decide)
theorem kn_l78_5 {f : Int32 → zP β} (h : L9 M) : (z_bd (z_aI 11 78 5) f).1 (KI M F) = (f (F 78 5)).1 (KI M F) := kn_a78 (k := 5) h (by decide)
theorem kn_t78_5 {f : Unit → zP β} (h : L9 M) : (z_bd (z_sI 11 78 5 v) f).1 (KI M F) = (f ()).1 (KI M (z_up2 F 78 5 v)) := kn_s78 (k := 5) h (by decide)
theorem kn_l78_6 {f : Int32 → zP β} (h : L9 M) : (z_bd (z_aI 11 78 6) f).1 (KI M F) = (f (F 78 6)).1 (KI M F) := kn_a78 (k := 6) h (by decide)
theorem kn_t78_6 {f : Unit → zP β} (h : L9 M) : (z_bd (z_sI 11 78 6 v) f).1 (KI M F) = (f ()).1 (KI M (z_up2 F 78 6 v)) := kn_s78 (k := 6) h (by decide)
theorem kn_l78_7 {f : Int32 → zP β} (h : L9 M) : (z_bd (z_aI 11 78 7) f).1 (KI M F) = (f (F 78 7)).1 (KI M F) := kn_a78 (k := 7) h (by decide)
theorem kn_t78_7 {f : Unit → zP β} (h : L9 M) : (z_bd (z_sI 11 78 7 v) f).1 (KI M F) = (f ()).1 (KI M (z_up2 F 78 7 v)) := kn_s78 (k := 7) h (by decide)
theorem kn_l78_8 {f : Int32 → zP β} (h : L9 M) : (z_bd (z_aI 11 78 8) f).1 (KI M F) = (f (F 78 8)).1 (KI M F) := kn_a78 (k := 8) h (by decide)
theorem kn_t78_8 {f : Unit → zP β} (h : L9 M) : (z_bd (z_sI 11 78 8 v) f).1 (KI M F) = (f ()).1 (KI M (z_up2 F 78 8 v)) := kn_s78 (k := 8) h (by decide)
theorem kn_l79_0 {f : Int32 → zP β} (h : L9 M) : (z_bd (z_aI 11 79 0) f).1 (KI M F) = (f (F 79 0)).1 (KI M F) := kn_a79 (k := 0) h (by decide)
theorem kn_t79_0 {f : Unit → zP β} (h : L9 M) : (z_bd (z_sI 11 79 0 v) f).1 (KI M F) = (f ()).1 (KI M (z_up2 F 79 0 v)) := kn_s79 (k := 0) h (by decide)
theorem kn_l82_0 {f : Int32 → zP β} (h : L9 M) : (z_bd (z_aI 11 82 0) f).1 (KI M F) = (f (F 82 0)).1 (KI M F) := kn_a82 (k := 0) h (by decide)
theorem kn_t82_0 {f : Unit → zP β} (h : L9 M) : (z_bd (z_sI 11 82 0 v) f).1 (KI M F) = (f ()).1 (KI M (z_up2 F 82 0 v)) := kn_s82 (k := 0) h (by decide)
theorem kn_l83_0 {f : Int32 → zP β} (h : L9 M) : (z_bd (z_aI 11 83 0) f).1 (KI M F) = (f (F 83 0)).1 (KI M F) := kn_a83 (k := 0) h (by decide)
theorem kn_t83_0 {f : Unit → zP β} (h : L9 M) : (z_bd (z_sI 11 83 0 v) f).1 (KI M F) = (f ()).1 (KI M (z_up2 F 83 0 v)) := kn_s83 (k := 0) h (by decide)
theorem kn_l83_1 {f : Int32 → zP β} (h : L9 M) : (z_bd (z_aI 11 83 1) f).1 (KI M F) = (f (F 83 1)).1 (KI M F) := kn_a83 (k := 1) h (by decide)
theorem kn_t83_1 {f : Unit → zP β} (h : L9 M) : (z_bd (z_sI 11 83 1 v) f).1 (KI M F) = (f ()).1 (KI M (z_up2 F 83 1 v)) := kn_s83 (k := 1) h (by decide)
theorem kn_l83_2 {f : Int32 → zP β} (h : L9 M) : (z_bd (z_aI 11 83 2) f).1 (KI M F) = (f (F 83 2)).1 (KI M F) := kn_a83 (k := 2) h (by decide)
theorem kn_t83_2 {f : Unit → zP β} (h : L9 M) : (z_bd (z_sI 11 83 2 v) f).1 (KI M F) = (f ()).1 (KI M (z_up2 F 83 2 v)) := kn_s83 (k := 2) h (by decide)
theorem kn_l83_3 {f : Int32 → zP β} (h : L9 M) : (z_bd (z_aI 11 83 3) f).1 (KI M F) = (f (F 83 3)).1 (KI M F) := kn_a83 (k := 3) h (by decide)
theorem kn_t83_3 {f : Unit → zP β} (h : L9 M) : (z_bd (z_sI 11 83 3 v) f).1 (KI M F) = (f ()).1 (KI M (z_up2 F 83 3 v)) := kn_s83 (k := 3) h (by decide)
theorem kn_l83_4 {f : Int32 → zP β} (h : L9 M) : (z_bd (z_aI 11 83 4) f).1 (KI M F) = (f (F 83 4)).1 (KI M F) := kn_a83 (k := 4) h (by decide)
theorem kn_t83_4 {f : Unit → zP β} (h : L9 M) : (z_bd (z_sI 11 83 4 v) f).1 (KI M F) = (f ()).1 (KI M (z_up2 F 83 4 v)) := kn_s83 (k := 4) h (by decide)
theorem kn_l83_5 {f : Int32 → zP β} (h : L9 M) : (z_bd (z_aI 11 83 5) f).1 (KI M F) = (f (F 83 5)).1 (KI M F) := kn_a83 (k := 5) h (by decide)
theorem kn_t83_5 {f : Unit → zP β} (h : L9 M) : (z_bd (z_sI 11 83 5 v) f).1 (KI M F) = (f ()).1 (KI M (z_up2 F 83 5 v)) := kn_s83 (k := 5) h (by decide)
theorem kn_l83_204 {f : Int32 → zP β} (h : L9 M) : (z_bd (z_aI 11 83 204) f).1 (KI M F) = (f (F 83 204)).1 (KI M F) := kn_a83 (k := 204) h (by decide)
theorem kn_t83_204 {f : Unit → zP β} (h : L9 M) : (z_bd (z_sI 11 83 204 v) f).1 (KI M F) = (f ()).1 (KI M (z_up2 F 83 204 v)) := kn_s83 (k := 204) h (by decide)
theorem kn_wk {f : Int32 → zP β} (h : L9 M) (hk : k < 8) : (z_bd (p_X9_working 75 (nI k)) f).1 (KI M F) = (f (s_wk (F 78) (F 83) k)).1 (KI M F) := g9_wk (M := KI M F) h hk
theorem kn_fr {f : Int32 → zP β} (h : L9 M) (hk : k < 8) : (z_bd (p_X9_free 75 (nI k)) f).1 (KI M F) = (f (s_fr (F 78) (F 83) k)).1 (KI M F) := g9_fr (M := KI M F) h hk
theorem kn_mk {f : Int32 → zP β} (h : L9 M) (hk : k < 8) : (z_bd (p_X9_mark 75 (nI k)) f).1 (KI M F) = (f (s_mk (F 78) (F 83) k)).1 (KI M F) := g9_mk (M := KI M F) h hk
theorem kn_ev {f : Int32 → zP β} (h : L9 M) (hk : k < 8) : (z_bd (p_X9_isEven 75 (nI k)) f).1 (KI M F) = (f (s_ev (F 78) (F 83) k)).1 (KI M F) := g9_ev (M := KI M F) h hk
theorem kn_bn {f : Int32 → zP β} (h : L9 M) (hk : k < 8) : (z_bd (p_X9_bonus 75 (nI k)) f).1 (KI M F) = (f (s_bn (F 78) (F 83) k)).1 (KI M F) := g9_bn (M := KI M F) h hk
theorem kn_ds {f : Int32 → zP β} (h : L9 M) (hj : j < 8) (hk : k < 8) : (z_bd (p_X9_distance 75 (nI j) (nI k)) f).1 (KI M F) = (f (s_ds (F 78) j k)).1 (KI M F) := g9_ds (M := KI M F) h hj hk
theorem kn_rd {f : Int32 → zP β} (h : L9 M) (hj : j < 8) (hk : k < 8) : (z_bd (p_X9_ride 75 (nI j) (nI k)) f).1 (KI M F) = (f (s_rd (F 78) j k)).1 (KI M F) := g9_rd (M := KI M F) h hj hk
theorem kn_dr {f : Int32 → zP β} (h : L9 M) (hj : j < 8) (hk : k < 8) : (z_bd (p_X9_drive 75 (nI j) (nI k)) f).1 (KI M F) = (f (s_dr (F 78) j k)).1 (KI M F) := g9_dr (M := KI M F) h hj hk
theorem kn_of {f : Int32 → zP β} (h : L9 M) (ht : t < 3) (hq : q < 18) : (z_bd (p_X9_of 75 (nI t) (nI q)) f).1 (KI M F) = (f (s_tr (F 83) t q)).1 (KI M F) := g9_of (M := KI M F) h ht hq
theorem kn_of0 {f : Int32 → zP β} (h : L9 M) (ht : t < 3) : (z_bd (p_X9_of 75 (nI t) 0) f).1 (KI M F) = (f (s_tr (F 83) t 0)).1 (KI M F) := kn_of (q := 0) h ht (by decide)
theorem kn_of1 {f : Int32 → zP β} (h : L9 M) (ht : t < 3) : (z_bd (p_X9_of 75 (nI t) 1) f).1 (KI M F) = (f (s_tr (F 83) t 1)).1 (KI M F) := kn_of (q := 1) h ht (by decide)
theorem kn_of2 {f : Int32 → zP β} (h : L9 M) (ht : t < 3) : (z_bd (p_X9_of 75 (nI t) 2) f).1 (KI M F) = (f (s_tr (F 83) t 2)).1 (KI M F) := kn_of (q := 2) h ht (by decide)
theorem kn_of3 {f : Int32 → zP β} (h : L9 M) (ht : t < 3) : (z_bd (p_X9_of 75 (nI t) 3) f).1 (KI M F) = (f (s_tr (F 83) t 3)).1 (KI M F) := kn_of (q := 3) h ht (by decide)
theorem kn_of4 {f : Int32 → zP β} (h : L9 M) (ht : t < 3) : (z_bd (p_X9_of 75 (nI t) 4) f).1 (KI M F) = (f (s_tr (F 83) t 4)).1 (KI M F) := kn_of (q := 4) h ht (by decide)
theorem kn_of5 {f : Int32 → zP β} (h : L9 M) (ht : t < 3) : (z_bd (p_X9_of 75 (nI t) 5) f).1 (KI M F) = (f (s_tr (F 83) t 5)).1 (KI M F) := kn_of (q := 5) h ht (by decide)
theorem kn_of6 {f : Int32 → zP β} (h : L9 M) (ht : t < 3) : (z_bd (p_X9_of 75 (nI t) 6) f).1 (KI M F) = (f (s_tr (F 83) t 6)).1 (KI M F) := kn_of (q := 6) h ht (by decide)
theorem kn_near {f : Int32 → zP β} (h : L9 M) (hs : F 78 0 = nI n) (hn : n ≤ 8) (hk : k < 8) (d : Int32) : (z_bd (p_X9_nearestTo 75 (nI k) d) f).1 (KI M F) = (f (iO (s_near (F 78) (F 83) k d n))).1 (KI M F) := g9_near (M := KI M F) h hs hn hk d
theorem kn_loads {f : Int32 → zP β} (h : L9 M) (hs : F 78 1 = nI n) (hn : n ≤ 3) : (z_bd (p_X9_loads 75) f).1 (KI M F) = (f (s_sum 0 (fun t => s_tr (F 83) t 4) n)).1 (KI M F) := g9_loads (M := KI M F) h hs hn
theorem kn_all {f : Int32 → zP β} (h : L9 M) (hs : F 78 1 = nI m) (hn : m ≤ 3) (hs0 : F 78 0 = nI n) (hn0 : n ≤ 8) : (z_bd (p_X9_all 75) f).1 (KI M F) = (f (s_sum (s_sum 0 (fun t => s_tr (F 83) t 4) m + F 83 204) (fun k => F 83 (6 + k)) n)).1 (KI M F) := e_run (f9_all (M := KI M F) h hs hn hs0 hn0)
theorem K9_KI (g st : Nat → Int32) : K9 (KI M F) g st = KI M (z_up1 (z_up1 F 82 g) 83 st) := rfl
theorem up1_id (F : Nat → Nat → Int32) (a : Nat) : z_up1 F a (F a) = F := by
  funext y
  unfold z_up1
  split
  · rename_i e; rw [e]
  · rfl
theorem KI_K9 : KI M F = K9 (KI M F) (F 82) (F 83) := K9_eta (KI M F)
theorem K9_KI2 (g : Nat → Int32) : K9 (KI M F) g (F 83) = KI M (z_up1 F 82 g) := by
  rw [K9_KI]
  congr 1
  have := up1_id (z_up1 F 82 g) 83
  rw [u1_n _ _ (by decide)] at this
  exact this
theorem kn_fare {f : Int32 → zP β} (h : L9 M) (hc : F 78 8 = nI n) (hn : n ≤ 700) (hn1 : 1 ≤ n) (hw : s_cw (F 80) n) (hj : j < 8) (hk : k < 8) : (z_bd (p_X9_fareOf 75 (nI j) (nI k)) f).1 (KI M F) = (f (s_fare (F 78) (F 80) (F 83) n j k)).1 (KI M (z_up1 F 82 (s_fa (F 80) (s_val (F 78) (F 83) j k) (F 82) n))) := by
  have e := kk_fare (M := KI M F) (g := F 82) (st := F 83) (f := f) (n := n) (j := j) (k := k) h hc hn hn1 hw hj hk
  rw [← KI_K9] at e
  refine e.trans ?_
  refine congrArg (f _).1 ?_
  exact K9_KI2 _
theorem kn_thr : (z_bd (p_X9_thrown 75) f0).1 (KI M F) = (z_bd (z_gI 9 75 0) f0).1 (KI M F) := by
  unfold p_X9_thrown
  rw [b_bd]
  rfl
theorem kn_fail {f : Int32 → zP β} (h : L9 M) : (z_bd (p_X9_fail 75 v) f).1 (KI M F) = (f 0).1 (KI M (z_up2 F 75 0 v)) := by
  unfold p_X9_fail
  simp (disch := first | assumption | omega) only [b_bd, b_pu, kn_pI]
theorem kn_told {f : Int32 → zP β} (h : L9 M) : (z_bd (p_X9_told 75 v) f).1 (KI M F) = (f v).1 (KI M (z_up2 F 75 0 0)) := by
  unfold p_X9_told
  simp (disch := first | assumption | omega) only [b_bd, b_pu, kn_pI]
/-- a test of an argument -/
theorem g9_wi {f : Int32 → zP β} (v lo hi : Int32) : (z_bd (p_X9_within v lo hi) f).1 M = (f (if v < lo then 0 else if hi < v then 0 else 1)).1 M := by
  unfold p_X9_within
  split
  · rfl
  · split <;> rfl
theorem wi_ok (hj : j < n) (hn : n < 2 ^ 31) : (if nI j < (0 : Int32) then (0 : Int32) else if nI n - 1 < nI j then 0 else 1) = 1 := by
  obtain ⟨m, rfl⟩ : ∃ m, n = m + 1 := ⟨n - 1, by omega⟩
  rw [if_neg (nI_pos (by omega)), nI_pred, if_neg (nI_nlt (by omega) (by omega))]
theorem wi_bad (h : x < 0 ∨ nI n ≤ x) (hn : n < 2 ^ 31) : (if x < (0 : Int32) then (0 : Int32) else if nI n - 1 < x then 0 else 1) = 0 := by
  by_cases h0 : x < 0
  · rw [if_pos h0]
  · rw [if_neg h0]
    have h1 : nI n ≤ x := h.resolve_left h0
    have h2 : nI n - 1 < x := by
      rw [i_le, nI_toInt hn] at h1
      rw [i_lt]
      cases n with
      | zero =>
        rw [i_lt] at h0
        have e0 : (0 : Int32).toInt = 0 := rfl
        have : (nI 0 - 1 : Int32).toInt = -1 := by decide
        omega
      | succ m =>
        rw [nI_pred, nI_toInt (by omega)]
        omega
    rw [if_pos h2]
theorem kn_st {f : Int32 → zP β} (h : L9 M) (hs : F 78 0 = nI n) (hn : n ≤ 8) (hj : j < n) : (z_bd (p_X9_isStation 75 (nI j)) f).1 (KI M F) = (f 1).1 (KI M F) := by
  have hw := wi_ok hj (by omega)
  unfold p_X9_isStation
  simp (disch := first | assumption | omega) only [b_bd, kn_g78, kn_l78_0, hs, g9_wi, hw]
  rw [show (z_bd (z_zg 1 (z_pu 1)) f) = f 1 from rfl]
theorem kn_stb {f : Int32 → zP β} (h : L9 M) (hs : F 78 0 = nI n) (hn : n ≤ 8) (hx : x < 0 ∨ nI n ≤ x) : (z_bd (p_X9_isStation 75 x) f).1 (KI M F) = (f 0).1 (KI M F) := by
  have hw := wi_bad hx (by omega)
  unfold p_X9_isStation
  simp (disch := first | assumption | omega) only [b_bd, kn_g78, kn_l78_0, hs, g9_wi, hw]
  rw [show (z_bd (z_zg 0 (z_pu 0)) f) = f 0 from rfl]
theorem kn_tk {f : Int32 → zP β} (h : L9 M) (hs : F 78 1 = nI n) (hn : n ≤ 3) (hj : j < n) : (z_bd (p_X9_isTruck 75 (nI j)) f).1 (KI M F) = (f 1).1 (KI M F) := by
  have hw := wi_ok hj (by omega)
  unfold p_X9_isTruck
  simp (disch := first | assumption | omega) only [b_bd, kn_g78, kn_l78_1, hs, g9_wi, hw]
  rw [show (z_bd (z_zg 1 (z_pu 1)) f) = f 1 from rfl]
theorem kn_tkb {f : Int32 → zP β} (h : L9 M) (hs : F 78 1 = nI n) (hn : n ≤ 3) (hx : x < 0 ∨ nI n ≤ x) : (z_bd (p_X9_isTruck 75 x) f).1 (KI M F) = (f 0).1 (KI M F) := by
  have hw := wi_bad hx (by omega)
  unfold p_X9_isTruck
  simp (disch := first | assumption | omega) only [b_bd, kn_g78, kn_l78_1, hs, g9_wi, hw]
  rw [show (z_bd (z_zg 0 (z_pu 0)) f) = f 0 from rfl]
theorem kn_ss {f : Int32 → zP β} (h : L9 M) (hs : F 78 0 = nI n) (hn : n ≤ 8) (hj : j < n) (hk : k < n) : (z_bd (p_X9_areStations 75 (nI j) (nI k)) f).1 (KI M F) = (f 1).1 (KI M F) := by
  unfold p_X9_areStations
  simp (disch := first | assumption | omega) only [b_bd, kn_cv, kn_st (j := j) h hs hn hj, kn_st (j := k) h hs hn hk, b_ite, b_pu, show ¬ (1 : Int32) = 0 by decide, if_false]
theorem kn_ssb {f : Int32 → zP β} {y : Int32} (h : L9 M) (hs : F 78 0 = nI n) (hn : n ≤ 8) (hx : (x < 0 ∨ nI n ≤ x) ∨ (y < 0 ∨ nI n ≤ y)) : (z_bd (p_X9_areStations 75 x y) f).1 (KI M F) = (f 0).1 (KI M F) := by
  unfold p_X9_areStations
  rcases pk_ix x (n := n) (by omega) with h1 | h1 | ⟨j, hj, rfl⟩
  · simp (disch := first | assumption | omega) only [b_bd, kn_cv, kn_stb h hs hn (Or.inl h1), b_ite, b_pu, if_true]
  · simp (disch := first | assumption | omega) only [b_bd, kn_cv, kn_stb h hs hn (Or.inr h1), b_ite, b_pu, if_true]
  · have hy : y < 0 ∨ nI n ≤ y := by
      rcases hx with (h2 | h2) | h2
      · exact absurd h2 (nI_pos (by omega))
      · exact absurd h2 (nI_ge hj (by omega))
      · exact h2
    simp (disch := first | assumption | omega) only [b_bd, kn_cv, kn_st (j := j) h hs hn hj, kn_stb h hs hn hy, b_ite, b_pu, show ¬ (1 : Int32) = 0 by decide, if_false, if_true]
end PA10
