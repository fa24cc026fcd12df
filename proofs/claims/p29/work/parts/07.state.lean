abbrev cT_t : Type := (Nat → Int32) × (Nat → Int32) × (Nat → Int32) × Int32 × Int32 × Int32 × Int32
abbrev cD_t : Type := (Nat → Int32) × (Nat → Int32)
abbrev cS_t : Type := (Nat → Int32) × (Nat → Int32) × (Nat → Int32) × Int32
abbrev cL_t : Type := (Nat → Int32) × (Nat → Int32) × (Nat → Int32)
abbrev cH_t : Type := (Nat → Int32) × (Nat → Int32)
abbrev cI_t : Type := (Nat → Int32) × (Nat → Int32) × (Nat → Int32) × Int32
abbrev cP_t : Type := (Nat → Int32) × (Nat → Int32) × (Nat → Int32)
abbrev cB_t : Type := (Nat → Int32) × (Nat → Int32) × (Nat → Int32) × (Nat → Int32) × (Nat → Int32) × Int32
abbrev cK_t : Type := (Nat → Int32)
abbrev GS : Type := Int32 × cT_t × cD_t × cS_t × cL_t × cH_t × cI_t × cP_t × cB_t × cK_t
def c_minute (u : GS) : Int32 := u.1
def c_minute_set (u : GS) (v : Int32) : GS := (v, u.2)
def qcT (u : GS) : cT_t := u.2.1
def qcT_put (u : GS) (v : cT_t) : GS := (u.1, (v, u.2.2))
def cT_held (u : GS) : (Nat → Int32) := u.2.1.1
def cT_held_set (u : GS) (v : (Nat → Int32)) : GS := (u.1, ((v, u.2.1.2), u.2.2))
def cT_stopped (u : GS) : (Nat → Int32) := u.2.1.2.1
def cT_stopped_set (u : GS) (v : (Nat → Int32)) : GS := (u.1, ((u.2.1.1, (v, u.2.1.2.2)), u.2.2))
def cT_broken (u : GS) : (Nat → Int32) := u.2.1.2.2.1
def cT_broken_set (u : GS) (v : (Nat → Int32)) : GS := (u.1, ((u.2.1.1, (u.2.1.2.1, (v, u.2.1.2.2.2))), u.2.2))
def cT_demand (u : GS) : Int32 := u.2.1.2.2.2.1
def cT_demand_set (u : GS) (v : Int32) : GS := (u.1, ((u.2.1.1, (u.2.1.2.1, (u.2.1.2.2.1, (v, u.2.1.2.2.2.2)))), u.2.2))
def cT_came (u : GS) : Int32 := u.2.1.2.2.2.2.1
def cT_came_set (u : GS) (v : Int32) : GS := (u.1, ((u.2.1.1, (u.2.1.2.1, (u.2.1.2.2.1, (u.2.1.2.2.2.1, (v, u.2.1.2.2.2.2.2))))), u.2.2))
def cT_waiting (u : GS) : Int32 := u.2.1.2.2.2.2.2.1
def cT_waiting_set (u : GS) (v : Int32) : GS := (u.1, ((u.2.1.1, (u.2.1.2.1, (u.2.1.2.2.1, (u.2.1.2.2.2.1, (u.2.1.2.2.2.2.1, (v, u.2.1.2.2.2.2.2.2)))))), u.2.2))
def cT_gone (u : GS) : Int32 := u.2.1.2.2.2.2.2.2
def cT_gone_set (u : GS) (v : Int32) : GS := (u.1, ((u.2.1.1, (u.2.1.2.1, (u.2.1.2.2.1, (u.2.1.2.2.2.1, (u.2.1.2.2.2.2.1, (u.2.1.2.2.2.2.2.1, v)))))), u.2.2))
def qcD (u : GS) : cD_t := u.2.2.1
def qcD_put (u : GS) (v : cD_t) : GS := (u.1, (u.2.1, (v, u.2.2.2)))
def cD_is (u : GS) : (Nat → Int32) := u.2.2.1.1
def cD_is_set (u : GS) (v : (Nat → Int32)) : GS := (u.1, (u.2.1, ((v, u.2.2.1.2), u.2.2.2)))
def cD_stuckAt (u : GS) : (Nat → Int32) := u.2.2.1.2
def cD_stuckAt_set (u : GS) (v : (Nat → Int32)) : GS := (u.1, (u.2.1, ((u.2.2.1.1, v), u.2.2.2)))
def qcS (u : GS) : cS_t := u.2.2.2.1
def qcS_put (u : GS) (v : cS_t) : GS := (u.1, (u.2.1, (u.2.2.1, (v, u.2.2.2.2))))
def cS_limits (u : GS) : (Nat → Int32) := u.2.2.2.1.1
def cS_limits_set (u : GS) (v : (Nat → Int32)) : GS := (u.1, (u.2.1, (u.2.2.1, ((v, u.2.2.2.1.2), u.2.2.2.2))))
def cS_shown (u : GS) : (Nat → Int32) := u.2.2.2.1.2.1
def cS_shown_set (u : GS) (v : (Nat → Int32)) : GS := (u.1, (u.2.1, (u.2.2.1, ((u.2.2.2.1.1, (v, u.2.2.2.1.2.2)), u.2.2.2.2))))
def cS_loweredAt (u : GS) : (Nat → Int32) := u.2.2.2.1.2.2.1
def cS_loweredAt_set (u : GS) (v : (Nat → Int32)) : GS := (u.1, (u.2.1, (u.2.2.1, ((u.2.2.2.1.1, (u.2.2.2.1.2.1, (v, u.2.2.2.1.2.2.2))), u.2.2.2.2))))
def cS_weather (u : GS) : Int32 := u.2.2.2.1.2.2.2
def cS_weather_set (u : GS) (v : Int32) : GS := (u.1, (u.2.1, (u.2.2.1, ((u.2.2.2.1.1, (u.2.2.2.1.2.1, (u.2.2.2.1.2.2.1, v))), u.2.2.2.2))))
def qcL (u : GS) : cL_t := u.2.2.2.2.1
def qcL_put (u : GS) (v : cL_t) : GS := (u.1, (u.2.1, (u.2.2.1, (u.2.2.2.1, (v, u.2.2.2.2.2)))))
def cL_orders (u : GS) : (Nat → Int32) := u.2.2.2.2.1.1
def cL_orders_set (u : GS) (v : (Nat → Int32)) : GS := (u.1, (u.2.1, (u.2.2.1, (u.2.2.2.1, ((v, u.2.2.2.2.1.2), u.2.2.2.2.2)))))
def cL_told (u : GS) : (Nat → Int32) := u.2.2.2.2.1.2.1
def cL_told_set (u : GS) (v : (Nat → Int32)) : GS := (u.1, (u.2.1, (u.2.2.1, (u.2.2.2.1, ((u.2.2.2.2.1.1, (v, u.2.2.2.2.1.2.2)), u.2.2.2.2.2)))))
def cL_shown (u : GS) : (Nat → Int32) := u.2.2.2.2.1.2.2
def cL_shown_set (u : GS) (v : (Nat → Int32)) : GS := (u.1, (u.2.1, (u.2.2.1, (u.2.2.2.1, ((u.2.2.2.2.1.1, (u.2.2.2.2.1.2.1, v)), u.2.2.2.2.2)))))
def qcH (u : GS) : cH_t := u.2.2.2.2.2.1
def qcH_put (u : GS) (v : cH_t) : GS := (u.1, (u.2.1, (u.2.2.1, (u.2.2.2.1, (u.2.2.2.2.1, (v, u.2.2.2.2.2.2))))))
def cH_open (u : GS) : (Nat → Int32) := u.2.2.2.2.2.1.1
def cH_open_set (u : GS) (v : (Nat → Int32)) : GS := (u.1, (u.2.1, (u.2.2.1, (u.2.2.2.1, (u.2.2.2.2.1, ((v, u.2.2.2.2.2.1.2), u.2.2.2.2.2.2))))))
def cH_foundClearAt (u : GS) : (Nat → Int32) := u.2.2.2.2.2.1.2
def cH_foundClearAt_set (u : GS) (v : (Nat → Int32)) : GS := (u.1, (u.2.1, (u.2.2.1, (u.2.2.2.1, (u.2.2.2.2.1, ((u.2.2.2.2.2.1.1, v), u.2.2.2.2.2.2))))))
def qcI (u : GS) : cI_t := u.2.2.2.2.2.2.1
def qcI_put (u : GS) (v : cI_t) : GS := (u.1, (u.2.1, (u.2.2.1, (u.2.2.2.1, (u.2.2.2.2.1, (u.2.2.2.2.2.1, (v, u.2.2.2.2.2.2.2)))))))
def cI_places (u : GS) : (Nat → Int32) := u.2.2.2.2.2.2.1.1
def cI_places_set (u : GS) (v : (Nat → Int32)) : GS := (u.1, (u.2.1, (u.2.2.1, (u.2.2.2.1, (u.2.2.2.2.1, (u.2.2.2.2.2.1, ((v, u.2.2.2.2.2.2.1.2), u.2.2.2.2.2.2.2)))))))
def cI_how (u : GS) : (Nat → Int32) := u.2.2.2.2.2.2.1.2.1
def cI_how_set (u : GS) (v : (Nat → Int32)) : GS := (u.1, (u.2.1, (u.2.2.1, (u.2.2.2.1, (u.2.2.2.2.1, (u.2.2.2.2.2.1, ((u.2.2.2.2.2.2.1.1, (v, u.2.2.2.2.2.2.1.2.2)), u.2.2.2.2.2.2.2)))))))
def cI_patrols (u : GS) : (Nat → Int32) := u.2.2.2.2.2.2.1.2.2.1
def cI_patrols_set (u : GS) (v : (Nat → Int32)) : GS := (u.1, (u.2.1, (u.2.2.1, (u.2.2.2.1, (u.2.2.2.2.1, (u.2.2.2.2.2.1, ((u.2.2.2.2.2.2.1.1, (u.2.2.2.2.2.2.1.2.1, (v, u.2.2.2.2.2.2.1.2.2.2))), u.2.2.2.2.2.2.2)))))))
def cI_count (u : GS) : Int32 := u.2.2.2.2.2.2.1.2.2.2
def cI_count_set (u : GS) (v : Int32) : GS := (u.1, (u.2.1, (u.2.2.1, (u.2.2.2.1, (u.2.2.2.2.1, (u.2.2.2.2.2.1, ((u.2.2.2.2.2.2.1.1, (u.2.2.2.2.2.2.1.2.1, (u.2.2.2.2.2.2.1.2.2.1, v))), u.2.2.2.2.2.2.2)))))))
def qcP (u : GS) : cP_t := u.2.2.2.2.2.2.2.1
def qcP_put (u : GS) (v : cP_t) : GS := (u.1, (u.2.1, (u.2.2.1, (u.2.2.2.1, (u.2.2.2.2.1, (u.2.2.2.2.2.1, (u.2.2.2.2.2.2.1, (v, u.2.2.2.2.2.2.2.2))))))))
def cP_sections (u : GS) : (Nat → Int32) := u.2.2.2.2.2.2.2.1.1
def cP_sections_set (u : GS) (v : (Nat → Int32)) : GS := (u.1, (u.2.1, (u.2.2.1, (u.2.2.2.1, (u.2.2.2.2.1, (u.2.2.2.2.2.1, (u.2.2.2.2.2.2.1, ((v, u.2.2.2.2.2.2.2.1.2), u.2.2.2.2.2.2.2.2))))))))
def cP_incidents (u : GS) : (Nat → Int32) := u.2.2.2.2.2.2.2.1.2.1
def cP_incidents_set (u : GS) (v : (Nat → Int32)) : GS := (u.1, (u.2.1, (u.2.2.1, (u.2.2.2.1, (u.2.2.2.2.1, (u.2.2.2.2.2.1, (u.2.2.2.2.2.2.1, ((u.2.2.2.2.2.2.2.1.1, (v, u.2.2.2.2.2.2.2.1.2.2)), u.2.2.2.2.2.2.2.2))))))))
def cP_minutesLeft (u : GS) : (Nat → Int32) := u.2.2.2.2.2.2.2.1.2.2
def cP_minutesLeft_set (u : GS) (v : (Nat → Int32)) : GS := (u.1, (u.2.1, (u.2.2.1, (u.2.2.2.1, (u.2.2.2.2.1, (u.2.2.2.2.2.1, (u.2.2.2.2.2.2.1, ((u.2.2.2.2.2.2.2.1.1, (u.2.2.2.2.2.2.2.1.2.1, v)), u.2.2.2.2.2.2.2.2))))))))
def qcB (u : GS) : cB_t := u.2.2.2.2.2.2.2.2.1
def qcB_put (u : GS) (v : cB_t) : GS := (u.1, (u.2.1, (u.2.2.1, (u.2.2.2.1, (u.2.2.2.2.1, (u.2.2.2.2.2.1, (u.2.2.2.2.2.2.1, (u.2.2.2.2.2.2.2.1, (v, u.2.2.2.2.2.2.2.2.2)))))))))
def cB_lanes (u : GS) : (Nat → Int32) := u.2.2.2.2.2.2.2.2.1.1
def cB_lanes_set (u : GS) (v : (Nat → Int32)) : GS := (u.1, (u.2.1, (u.2.2.1, (u.2.2.2.1, (u.2.2.2.2.1, (u.2.2.2.2.2.1, (u.2.2.2.2.2.2.1, (u.2.2.2.2.2.2.2.1, ((v, u.2.2.2.2.2.2.2.2.1.2), u.2.2.2.2.2.2.2.2.2)))))))))
def cB_froms (u : GS) : (Nat → Int32) := u.2.2.2.2.2.2.2.2.1.2.1
def cB_froms_set (u : GS) (v : (Nat → Int32)) : GS := (u.1, (u.2.1, (u.2.2.1, (u.2.2.2.1, (u.2.2.2.2.1, (u.2.2.2.2.2.1, (u.2.2.2.2.2.2.1, (u.2.2.2.2.2.2.2.1, ((u.2.2.2.2.2.2.2.2.1.1, (v, u.2.2.2.2.2.2.2.2.1.2.2)), u.2.2.2.2.2.2.2.2.2)))))))))
def cB_tos (u : GS) : (Nat → Int32) := u.2.2.2.2.2.2.2.2.1.2.2.1
def cB_tos_set (u : GS) (v : (Nat → Int32)) : GS := (u.1, (u.2.1, (u.2.2.1, (u.2.2.2.1, (u.2.2.2.2.1, (u.2.2.2.2.2.1, (u.2.2.2.2.2.2.1, (u.2.2.2.2.2.2.2.1, ((u.2.2.2.2.2.2.2.2.1.1, (u.2.2.2.2.2.2.2.2.1.2.1, (v, u.2.2.2.2.2.2.2.2.1.2.2.2))), u.2.2.2.2.2.2.2.2.2)))))))))
def cB_begins (u : GS) : (Nat → Int32) := u.2.2.2.2.2.2.2.2.1.2.2.2.1
def cB_begins_set (u : GS) (v : (Nat → Int32)) : GS := (u.1, (u.2.1, (u.2.2.1, (u.2.2.2.1, (u.2.2.2.2.1, (u.2.2.2.2.2.1, (u.2.2.2.2.2.2.1, (u.2.2.2.2.2.2.2.1, ((u.2.2.2.2.2.2.2.2.1.1, (u.2.2.2.2.2.2.2.2.1.2.1, (u.2.2.2.2.2.2.2.2.1.2.2.1, (v, u.2.2.2.2.2.2.2.2.1.2.2.2.2)))), u.2.2.2.2.2.2.2.2.2)))))))))
def cB_ends (u : GS) : (Nat → Int32) := u.2.2.2.2.2.2.2.2.1.2.2.2.2.1
def cB_ends_set (u : GS) (v : (Nat → Int32)) : GS := (u.1, (u.2.1, (u.2.2.1, (u.2.2.2.1, (u.2.2.2.2.1, (u.2.2.2.2.2.1, (u.2.2.2.2.2.2.1, (u.2.2.2.2.2.2.2.1, ((u.2.2.2.2.2.2.2.2.1.1, (u.2.2.2.2.2.2.2.2.1.2.1, (u.2.2.2.2.2.2.2.2.1.2.2.1, (u.2.2.2.2.2.2.2.2.1.2.2.2.1, (v, u.2.2.2.2.2.2.2.2.1.2.2.2.2.2))))), u.2.2.2.2.2.2.2.2.2)))))))))
def cB_count (u : GS) : Int32 := u.2.2.2.2.2.2.2.2.1.2.2.2.2.2
def cB_count_set (u : GS) (v : Int32) : GS := (u.1, (u.2.1, (u.2.2.1, (u.2.2.2.1, (u.2.2.2.2.1, (u.2.2.2.2.2.1, (u.2.2.2.2.2.2.1, (u.2.2.2.2.2.2.2.1, ((u.2.2.2.2.2.2.2.2.1.1, (u.2.2.2.2.2.2.2.2.1.2.1, (u.2.2.2.2.2.2.2.2.1.2.2.1, (u.2.2.2.2.2.2.2.2.1.2.2.2.1, (u.2.2.2.2.2.2.2.2.1.2.2.2.2.1, v))))), u.2.2.2.2.2.2.2.2.2)))))))))
def qcK (u : GS) : cK_t := u.2.2.2.2.2.2.2.2.2
def qcK_put (u : GS) (v : cK_t) : GS := (u.1, (u.2.1, (u.2.2.1, (u.2.2.2.1, (u.2.2.2.2.1, (u.2.2.2.2.2.1, (u.2.2.2.2.2.2.1, (u.2.2.2.2.2.2.2.1, (u.2.2.2.2.2.2.2.2.1, v)))))))))
def cK_kept (u : GS) : (Nat → Int32) := u.2.2.2.2.2.2.2.2.2
def cK_kept_set (u : GS) (v : (Nat → Int32)) : GS := (u.1, (u.2.1, (u.2.2.1, (u.2.2.2.1, (u.2.2.2.2.1, (u.2.2.2.2.2.1, (u.2.2.2.2.2.2.1, (u.2.2.2.2.2.2.2.1, (u.2.2.2.2.2.2.2.2.1, v)))))))))
def wC (cI cZ : ClassId) (ad : Nat → Nat) (u : GS) : va_W := [(ad 0, .inr (9, [.int (c_minute u), .ref (ad 1), .ref (ad 2), .ref (ad 3), .ref (ad 4), .ref (ad 5), .ref (ad 6), .ref (ad 7), .ref (ad 8), .ref (ad 9)])), (ad 1, .inr (8, [.ref (ad 10), .ref (ad 11), .ref (ad 12), .int (cT_demand u), .int (cT_came u), .int (cT_waiting u), .int (cT_gone u)])), (ad 2, .inr (1, [.ref (ad 13), .ref (ad 14)])), (ad 3, .inr (7, [.ref (ad 15), .ref (ad 16), .ref (ad 17), .int (cS_weather u)])), (ad 4, .inr (3, [.ref (ad 18), .ref (ad 19), .ref (ad 20)])), (ad 5, .inr (6, [.ref (ad 21), .ref (ad 22)])), (ad 6, .inr (2, [.ref (ad 23), .ref (ad 24), .ref (ad 25), .int (cI_count u)])), (ad 7, .inr (4, [.ref (ad 26), .ref (ad 27), .ref (ad 28)])), (ad 8, .inr (0, [.ref (ad 29), .ref (ad 30), .ref (ad 31), .ref (ad 32), .ref (ad 33), .int (cB_count u)])), (ad 9, .inr (5, [.ref (ad 34)])), (ad 10, .inl (cI, 48, .inl (cT_held u))), (ad 11, .inl (cZ, 48, .inl (cT_stopped u))), (ad 12, .inl (cZ, 12, .inl (cT_broken u))), (ad 13, .inl (cI, 12, .inl (cD_is u))), (ad 14, .inl (cI, 12, .inl (cD_stuckAt u))), (ad 15, .inl (cI, 12, .inl (cS_limits u))), (ad 16, .inl (cI, 12, .inl (cS_shown u))), (ad 17, .inl (cI, 12, .inl (cS_loweredAt u))), (ad 18, .inl (cI, 48, .inl (cL_orders u))), (ad 19, .inl (cI, 48, .inl (cL_told u))), (ad 20, .inl (cI, 48, .inl (cL_shown u))), (ad 21, .inl (cZ, 12, .inl (cH_open u))), (ad 22, .inl (cI, 12, .inl (cH_foundClearAt u))), (ad 23, .inl (cI, 12, .inl (cI_places u))), (ad 24, .inl (cI, 12, .inl (cI_how u))), (ad 25, .inl (cI, 12, .inl (cI_patrols u))), (ad 26, .inl (cI, 3, .inl (cP_sections u))), (ad 27, .inl (cI, 3, .inl (cP_incidents u))), (ad 28, .inl (cI, 3, .inl (cP_minutesLeft u))), (ad 29, .inl (cI, 8, .inl (cB_lanes u))), (ad 30, .inl (cI, 8, .inl (cB_froms u))), (ad 31, .inl (cI, 8, .inl (cB_tos u))), (ad 32, .inl (cI, 8, .inl (cB_begins u))), (ad 33, .inl (cI, 8, .inl (cB_ends u))), (ad 34, .inl (cI, 720, .inl (cK_kept u)))]
def g_X9_placeOf (p0 : Int32) (p1 : Int32) : Option (Int32) :=
    some ((p0 * (4 : Int32)) + p1)

def lp_X6_tellCrosses_2 (k : GS → Option (GS)) : Nat → Int32 → GS → Option (GS)
  | 0, _, _ => none
  | n + 1, x2_2, w2 =>
    if (12 : Int32) ≤ x2_2 then
    k w2
    else
    g_in x2_2 12 (
    g_let (fun (w25 : GS) => g_let (x2_2 + 1) (fun (v4 : Int32) =>
    lp_X6_tellCrosses_2 k n v4 w25)) (fun (j25_3 : GS → Option (GS)) =>
    if (cH_open w2 x2_2.toNatClampNeg) = 0 then
    g_bind (g_X9_placeOf x2_2 (0 : Int32)) (fun (y6 : Int32) =>
    g_in y6 48 (
    g_let (cL_told_set w2 (upd (cL_told w2) y6.toNatClampNeg (2 : Int32))) (fun (u9 : GS) =>
    j25_3 u9)))
    else
    j25_3 w2))
def g_X6_tellCrosses (u : GS) : Option (GS) :=
    lp_X6_tellCrosses_2 (fun (w2 : GS)  => some w2) FU (0 : Int32) u

def g_X9_isWithin (p0 : Int32) (p1 : Int32) (p2 : Int32) : Option (Int32) :=
    if p0 < p1 then
    some (0 : Int32)
    else
    if p2 < p0 then
    some (0 : Int32)
    else
    some (1 : Int32)

def lp_X2_tellCrosses_2 (k : GS → Option (GS)) : Nat → Int32 → GS → Option (GS)
  | 0, _, _ => none
  | n + 1, x2_2, w2 =>
    if (12 : Int32) ≤ x2_2 then
    k w2
    else
    g_let (fun (w50 : GS) => g_let (x2_2 + 1) (fun (v3 : Int32) =>
    lp_X2_tellCrosses_2 k n v3 w50)) (fun (j50_2 : GS → Option (GS)) =>
    if (cI_count w2) ≤ x2_2 then
    j50_2 w2
    else
    g_in x2_2 12 (
    if (cI_how w2 x2_2.toNatClampNeg) = (1 : Int32) then
    g_in x2_2 12 (
    g_bind (g_X9_isWithin (cI_places w2 x2_2.toNatClampNeg) (0 : Int32) (47 : Int32)) (fun (y8 : Int32) =>
    if y8 = 0 then
    j50_2 w2
    else
    g_in x2_2 12 (
    g_in (cI_places w2 x2_2.toNatClampNeg) 48 (
    g_let (cL_told_set w2 (upd (cL_told w2) (cI_places w2 x2_2.toNatClampNeg).toNatClampNeg (2 : Int32))) (fun (u13 : GS) =>
    j50_2 u13)))))
    else
    j50_2 w2))
def g_X2_tellCrosses (u : GS) : Option (GS) :=
    lp_X2_tellCrosses_2 (fun (w2 : GS)  => some w2) FU (0 : Int32) u

def g_X0_isRunning (u : GS) (p0 : Int32) (p1 : Int32) : Option (Int32) :=
    g_bind (g_X9_isWithin p0 (0 : Int32) (7 : Int32)) (fun (y1 : Int32) =>
    if y1 = 0 then
    some (0 : Int32)
    else
    g_in p0 8 (
    if p1 < (cB_begins u p0.toNatClampNeg) then
    some (0 : Int32)
    else
    g_in p0 8 (
    if (cB_ends u p0.toNatClampNeg) ≤ p1 then
    some (0 : Int32)
    else
    some (1 : Int32))))

def lp_X0_tellCrossesOf_2 (p0 : Int32) (k : GS → Option (GS)) : Nat → Int32 → GS → Option (GS)
  | 0, _, _ => none
  | n + 1, x3_2, w2 =>
    if (12 : Int32) ≤ x3_2 then
    k w2
    else
    g_in p0 8 (
    g_bind (g_X9_placeOf x3_2 (cB_lanes w2 p0.toNatClampNeg)) (fun (y3 : Int32) =>
    g_in p0 8 (
    g_in p0 8 (
    g_bind (g_X9_isWithin x3_2 (cB_froms w2 p0.toNatClampNeg) (cB_tos w2 p0.toNatClampNeg)) (fun (y7 : Int32) =>
    g_let (fun (w55 : GS) => g_let (x3_2 + 1) (fun (v10 : Int32) =>
    lp_X0_tellCrossesOf_2 p0 k n v10 w55)) (fun (j55_9 : GS → Option (GS)) =>
    if y7 = 0 then
    j55_9 w2
    else
    g_bind (g_X9_isWithin y3 (0 : Int32) (47 : Int32)) (fun (y12 : Int32) =>
    if y12 = 0 then
    j55_9 w2
    else
    g_in y3 48 (
    g_let (cL_told_set w2 (upd (cL_told w2) y3.toNatClampNeg (2 : Int32))) (fun (u16 : GS) =>
    j55_9 u16)))))))))
def g_X0_tellCrossesOf (u : GS) (p0 : Int32) : Option (GS) :=
    lp_X0_tellCrossesOf_2 p0 (fun (w2 : GS)  => some w2) FU (0 : Int32) u

def lp_X0_tellCrosses_2 (p0 : Int32) (k : GS → Option (GS)) : Nat → Int32 → GS → Option (GS)
  | 0, _, _ => none
  | n + 1, x3_2, w2 =>
    if (8 : Int32) ≤ x3_2 then
    k w2
    else
    g_let (fun (w31 : GS) => g_let (x3_2 + 1) (fun (v3 : Int32) =>
    lp_X0_tellCrosses_2 p0 k n v3 w31)) (fun (j31_2 : GS → Option (GS)) =>
    if (cB_count w2) ≤ x3_2 then
    j31_2 w2
    else
    g_bind (g_X0_isRunning w2 x3_2 p0) (fun (y5 : Int32) =>
    if y5 = 0 then
    j31_2 w2
    else
    g_bind (g_X0_tellCrossesOf w2 x3_2) (fun (y8 : GS) =>
    j31_2 y8)))
def g_X0_tellCrosses (u : GS) (p0 : Int32) : Option (GS) :=
    lp_X0_tellCrosses_2 p0 (fun (w2 : GS)  => some w2) FU (0 : Int32) u

def g_X3_isAheadOfCross_t (u : GS) (p0 : Int32) : Option (Int32) :=
    g_let (p0 + (4 : Int32)) (fun (v1 : Int32) =>
    g_bind (g_X9_isWithin v1 (0 : Int32) (47 : Int32)) (fun (y2 : Int32) =>
    if y2 = 0 then
    some (0 : Int32)
    else
    g_in v1 48 (
    if (cL_told u v1.toNatClampNeg) = (2 : Int32) then
    some (1 : Int32)
    else
    some (0 : Int32))))

def lp_X3_setAnew_3 (k : GS → Option (GS)) : Nat → Int32 → GS → Option (GS)
  | 0, _, _ => none
  | n + 1, x5_3, w3 =>
    if (48 : Int32) ≤ x5_3 then
    k w3
    else
    g_in x5_3 48 (
    g_let (cL_told_set w3 (upd (cL_told w3) x5_3.toNatClampNeg (0 : Int32))) (fun (u3 : GS) =>
    g_let (x5_3 + 1) (fun (v4 : Int32) =>
    lp_X3_setAnew_3 k n v4 u3)))
def lp_X3_setAnew_53 (k : GS → Option (GS)) : Nat → Int32 → GS → Option (GS)
  | 0, _, _ => none
  | n + 1, x5_53, w53 =>
    if (48 : Int32) ≤ x5_53 then
    k w53
    else
    g_in x5_53 48 (
    g_let (fun (w85 : GS) => g_let (x5_53 + 1) (fun (v14 : Int32) =>
    lp_X3_setAnew_53 k n v14 w85)) (fun (j85_13 : GS → Option (GS)) =>
    if (cL_orders w53 x5_53.toNatClampNeg) = (-1 : Int32) then
    j85_13 w53
    else
    g_in x5_53 48 (
    g_in x5_53 48 (
    g_let (cL_told_set w53 (upd (cL_told w53) x5_53.toNatClampNeg (cL_orders w53 x5_53.toNatClampNeg))) (fun (u18 : GS) =>
    j85_13 u18)))))
def lp_X3_setAnew_94 (k : GS → Option (GS)) : Nat → Int32 → GS → Option (GS)
  | 0, _, _ => none
  | n + 1, x5_94, w94 =>
    if (48 : Int32) ≤ x5_94 then
    k w94
    else
    g_in x5_94 48 (
    g_let (fun (z0_140 : Int32) => g_in x5_94 48 (
    g_let (cL_shown_set w94 (upd (cL_shown w94) x5_94.toNatClampNeg z0_140)) (fun (u23 : GS) =>
    g_let (x5_94 + 1) (fun (v24 : Int32) =>
    lp_X3_setAnew_94 k n v24 u23)))) (fun (j140_21 : Int32 → Option (GS)) =>
    g_let (fun (_ : Unit) => g_in x5_94 48 (
    j140_21 (cL_told w94 x5_94.toNatClampNeg))) (fun (j133_25 : Unit → Option (GS)) =>
    if (cL_told w94 x5_94.toNatClampNeg) = 0 then
    g_bind (g_X3_isAheadOfCross_t w94 x5_94) (fun (y28 : Int32) =>
    if y28 = 0 then
    j133_25 ()
    else
    j140_21 (1 : Int32))
    else
    j133_25 ())))
def g_X3_setAnew (u : GS) (p0 : Int32) : Option (GS) :=
    lp_X3_setAnew_3 (fun (w3 : GS)  => g_bind (g_X6_tellCrosses w3) (fun (y5 : GS) =>
    g_bind (g_X2_tellCrosses y5) (fun (y7 : GS) =>
    g_bind (g_X0_tellCrosses y7 p0) (fun (y9 : GS) =>
    lp_X3_setAnew_53 (fun (w53 : GS)  => lp_X3_setAnew_94 (fun (w94 : GS)  => some w94) FU (0 : Int32) w53) FU (0 : Int32) y9)))) FU (0 : Int32) u

def g_X9_setLaneSigns (u : GS) : Option (GS) :=
    g_bind (g_X3_setAnew u (c_minute u)) (fun (y1 : GS) =>
    some y1)

def lp_X7_areLawful_2 (u : GS) (k : Unit → Option (Int32)) : Nat → Int32 → Option (Int32)
  | 0, _ => none
  | n + 1, x1_2 =>
    if (12 : Int32) ≤ (x1_2 + (1 : Int32)) then
    k ()
    else
    g_in x1_2 12 (
    g_in (x1_2 + (1 : Int32)) 12 (
    if (cS_shown u x1_2.toNatClampNeg) ≤ ((cS_shown u (x1_2 + (1 : Int32)).toNatClampNeg) + (20 : Int32)) then
    g_let (x1_2 + 1) (fun (v5 : Int32) =>
    lp_X7_areLawful_2 u k n v5)
    else
    some (0 : Int32)))
def g_X7_areLawful (u : GS) : Option (Int32) :=
    lp_X7_areLawful_2 u (fun (_ : Unit) => some (1 : Int32)) FU (0 : Int32)

def g_X3_isAheadOfCross_s (u : GS) (p0 : Int32) : Option (Int32) :=
    g_let (p0 + (4 : Int32)) (fun (v1 : Int32) =>
    g_bind (g_X9_isWithin v1 (0 : Int32) (47 : Int32)) (fun (y2 : Int32) =>
    if y2 = 0 then
    some (0 : Int32)
    else
    g_in v1 48 (
    if (cL_shown u v1.toNatClampNeg) = (2 : Int32) then
    some (1 : Int32)
    else
    some (0 : Int32))))

def lp_X3_areLawful_2 (u : GS) (k : Unit → Option (Int32)) : Nat → Int32 → Option (Int32)
  | 0, _ => none
  | n + 1, x1_2 =>
    if (48 : Int32) ≤ x1_2 then
    k ()
    else
    g_in x1_2 48 (
    g_let (fun (_ : Unit) => g_let (x1_2 + 1) (fun (v4 : Int32) =>
    lp_X3_areLawful_2 u k n v4)) (fun (j30_3 : Unit → Option (Int32)) =>
    if (cL_shown u x1_2.toNatClampNeg) = 0 then
    g_bind (g_X3_isAheadOfCross_s u x1_2) (fun (y6 : Int32) =>
    if y6 = 0 then
    j30_3 ()
    else
    some (0 : Int32))
    else
    j30_3 ()))
def g_X3_areLawful (u : GS) : Option (Int32) :=
    lp_X3_areLawful_2 u (fun (_ : Unit) => some (1 : Int32)) FU (0 : Int32)

def g_X9_isLawful (u : GS) : Option (Int32 × GS) :=
    g_bind (g_X9_setLaneSigns u) (fun (y1 : GS) =>
    g_bind (g_X7_areLawful y1) (fun (y3 : Int32) =>
    if y3 = 0 then
    some ((0 : Int32), y1)
    else
    g_bind (g_X3_areLawful y1) (fun (y6 : Int32) =>
    if y6 = 0 then
    some ((0 : Int32), y1)
    else
    some ((1 : Int32), y1))))

def lp_X8_mostIn_16 (u : GS) (p0 : Int32) (k : Int32 → Option (Int32)) : Nat → Int32 → Int32 → Option (Int32)
  | 0, _, _ => none
  | n + 1, x2_16, x3_16 =>
    if (4 : Int32) ≤ x3_16 then
    k x2_16
    else
    g_in ((p0 * (4 : Int32)) + x3_16) 48 (
    g_let (cT_held u ((p0 * (4 : Int32)) + x3_16).toNatClampNeg) (fun (v5 : Int32) =>
    g_let (fun (z0_45 : Int32) => g_let (x3_16 + 1) (fun (v7 : Int32) =>
    lp_X8_mostIn_16 u p0 k n z0_45 v7)) (fun (j45_6 : Int32 → Option (Int32)) =>
    if v5 ≤ x2_16 then
    j45_6 x2_16
    else
    j45_6 v5)))
def g_X8_mostIn (u : GS) (p0 : Int32) : Option (Int32) :=
    if p0 < 0 then
    some (0 : Int32)
    else
    if p0 < (12 : Int32) then
    lp_X8_mostIn_16 u p0 (fun (x2_16 : Int32)  => some x2_16) FU (0 : Int32) (0 : Int32)
    else
    some (0 : Int32)

def g_X8_speedAt (u : GS) (p0 : Int32) : Option (Int32) :=
    g_bind (g_X8_mostIn u p0) (fun (y1 : Int32) =>
    some ((120 : Int32) - ((5 : Int32) * y1)))

def lp_X1_guessAt_8 (u : GS) (p0 : Int32) (k : Int32 → Int32 → Option (Int32)) : Nat → Int32 → Int32 → Int32 → Option (Int32)
  | 0, _, _, _ => none
  | n + 1, x3_8, x4_8, x5_8 =>
    if (12 : Int32) ≤ x5_8 then
    k x3_8 x4_8
    else
    g_let (fun (x3_53 : Int32) (x4_53 : Int32) => g_let (x5_8 + 1) (fun (v3 : Int32) =>
    lp_X1_guessAt_8 u p0 k n x3_53 x4_53 v3)) (fun (j53_2 : Int32 → Int32 → Option (Int32)) =>
    g_let (fun (_ : Unit) => g_in x5_8 12 (
    if (cD_is u x5_8.toNatClampNeg) = 0 then
    g_bind (g_X8_speedAt u x5_8) (fun (y7 : Int32) =>
    g_let (x3_8 + y7) (fun (v9 : Int32) =>
    g_let (x4_8 + 1) (fun (v10 : Int32) =>
    j53_2 v9 v10)))
    else
    j53_2 x3_8 x4_8)) (fun (j31_4 : Unit → Option (Int32)) =>
    if x5_8 = (p0 - (1 : Int32)) then
    j31_4 ()
    else
    if x5_8 = (p0 + (1 : Int32)) then
    j31_4 ()
    else
    j53_2 x3_8 x4_8))
def g_X1_guessAt (u : GS) (p0 : Int32) : Option (Int32) :=
    lp_X1_guessAt_8 u p0 (fun (x3_8 : Int32) (x4_8 : Int32)  => if x4_8 = 0 then
    some (-1 : Int32)
    else
    g_nz x4_8 (
    some (x3_8 / x4_8))) FU (0 : Int32) (0 : Int32) (0 : Int32)

def g_X1_beliefAt (u : GS) (p0 : Int32) : Option (Int32) :=
    g_bind (g_X9_isWithin p0 (0 : Int32) (11 : Int32)) (fun (y1 : Int32) =>
    if y1 = 0 then
    some (-1 : Int32)
    else
    g_in p0 12 (
    if (cD_is u p0.toNatClampNeg) = 0 then
    g_bind (g_X8_speedAt u p0) (fun (y14 : Int32) =>
    some y14)
    else
    g_bind (g_X1_guessAt u p0) (fun (y6 : Int32) =>
    g_in p0 12 (
    if (cD_is u p0.toNatClampNeg) = (2 : Int32) then
    some y6
    else
    g_in p0 12 (
    g_let (cD_stuckAt u p0.toNatClampNeg) (fun (v11 : Int32) =>
    if y6 = (-1 : Int32) then
    some v11
    else
    if (if 0 ≤ (y6 - v11) then (y6 - v11) else 0 - (y6 - v11)) ≤ (30 : Int32) then
    some v11
    else
    some y6))))))

def lp_X9_pattern_2 (u : GS) (k : Unit → Option (Int32)) : Nat → Int32 → Option (Int32)
  | 0, _ => none
  | n + 1, x1_2 =>
    if (11 : Int32) ≤ x1_2 then
    k ()
    else
    g_bind (g_X1_beliefAt u x1_2) (fun (y2 : Int32) =>
    g_let (fun (_ : Unit) => g_let (x1_2 + 1) (fun (v5 : Int32) =>
    lp_X9_pattern_2 u k n v5)) (fun (j53_4 : Unit → Option (Int32)) =>
    if y2 = (-1 : Int32) then
    j53_4 ()
    else
    if (40 : Int32) ≤ y2 then
    j53_4 ()
    else
    g_bind (g_X1_beliefAt u (x1_2 + (1 : Int32))) (fun (y8 : Int32) =>
    if y8 < (80 : Int32) then
    j53_4 ()
    else
    some x1_2)))
def g_X9_pattern (u : GS) : Option (Int32) :=
    lp_X9_pattern_2 u (fun (_ : Unit) => some (-1 : Int32)) FU (0 : Int32)

def g_X9_needIndex (u : GS) (p0 : Int32) : Option (g_X × GS) :=
    if p0 = 0 then
    some (.inr "java/lang/IndexOutOfBoundsException", u)
    else
    some (.inl 0, u)

def g_X9_needSection (u : GS) (p0 : Int32) : Option (g_X × GS) :=
    g_bind (g_X9_isWithin p0 (0 : Int32) (11 : Int32)) (fun (y1 : Int32) =>
    g_xb (g_X9_needIndex u y1) id (fun (y3 : Int32) (u4 : GS) =>
    some (.inl 0, u4)))

def g_X9_needPlace (u : GS) (p0 : Int32) (p1 : Int32) : Option (g_X × GS) :=
    g_xb (g_X9_needSection u p0) id (fun (y1 : Int32) (u2 : GS) =>
    g_bind (g_X9_isWithin p1 (0 : Int32) (3 : Int32)) (fun (y4 : Int32) =>
    g_xb (g_X9_needIndex u2 y4) id (fun (y6 : Int32) (u7 : GS) =>
    some (.inl 0, u7))))

def g_X9_sign (u : GS) (p0 : Int32) (p1 : Int32) : Option (g_X × GS) :=
    g_xb (g_X9_needPlace u p0 p1) id (fun (y1 : Int32) (u2 : GS) =>
    g_bind (g_X9_setLaneSigns u2) (fun (y4 : GS) =>
    g_bind (g_X9_placeOf p0 p1) (fun (y6 : Int32) =>
    g_in y6 48 (
    some (.inl (cL_shown y4 y6.toNatClampNeg), y4)))))

def g_X9_needArgument (u : GS) (p0 : Int32) : Option (g_X × GS) :=
    if p0 = 0 then
    some (.inr "java/lang/IllegalArgumentException", u)
    else
    some (.inl 0, u)

def g_X5_isKept (p0 : Int32) (p1 : Int32) : Option (Int32) :=
    g_bind (g_X9_isWithin p0 ((p1 - (60 : Int32)) + (1 : Int32)) p1) (fun (y1 : Int32) =>
    g_bo y1 (some y1))

def g_X9_needState (u : GS) (p0 : Int32) : Option (g_X × GS) :=
    if p0 = 0 then
    some (.inr "java/lang/IllegalStateException", u)
    else
    some (.inl 0, u)

def g_J9_floorMod_7cf53 (p0 : Int32) (p1 : Int32) : Option (Int32) :=
    g_nz p1 (
    g_let (p0 - p0 / p1 * p1) (fun (v2 : Int32) =>
    if 0 ≤ (p0 ^^^ p1) then
    some v2
    else
    if v2 = 0 then
    some v2
    else
    some (v2 + p1)))

def g_X5_slotOf (p0 : Int32) (p1 : Int32) : Option (Int32) :=
    g_bind (g_J9_floorMod_7cf53 p0 (60 : Int32)) (fun (y1 : Int32) =>
    some ((y1 * (12 : Int32)) + p1))

def g_X5_laneSign (u : GS) (p0 : Int32) (p1 : Int32) (p2 : Int32) : Option (Int32) :=
    g_bind (g_X5_slotOf p0 p1) (fun (y1 : Int32) =>
    g_in y1 720 (
    some (((cK_kept u y1.toNatClampNeg) >>> (((2 : Int32) * p2) &&& 31)) &&& (3 : Int32))))

def g_X5_speedSign (u : GS) (p0 : Int32) (p1 : Int32) : Option (Int32) :=
    g_bind (g_X5_slotOf p0 p1) (fun (y1 : Int32) =>
    g_in y1 720 (
    some ((cK_kept u y1.toNatClampNeg) >>> ((8 : Int32) &&& 31))))

def g_X9_proof (u : GS) (p0 : Int32) (p1 : Int32) (p2 : Int32) : Option (g_X × GS) :=
    g_xb (g_X9_needSection u p1) id (fun (y1 : Int32) (u2 : GS) =>
    g_let (fun (z0_13 : Int32) => g_xb (g_X9_needArgument u2 z0_13) id (fun (y5 : Int32) (u6 : GS) =>
    g_bind (g_X9_isWithin p2 (0 : Int32) (4 : Int32)) (fun (y8 : Int32) =>
    g_xb (g_X9_needArgument u6 y8) id (fun (y10 : Int32) (u11 : GS) =>
    g_bind (g_X5_isKept p0 (c_minute u11)) (fun (y13 : Int32) =>
    g_xb (g_X9_needState u11 y13) id (fun (y15 : Int32) (u16 : GS) =>
    if p2 = 0 then
    g_bind (g_X5_speedSign u16 p0 p1) (fun (y21 : Int32) =>
    some (.inl y21, u16))
    else
    g_bind (g_X5_laneSign u16 p0 p1 (p2 - (1 : Int32))) (fun (y19 : Int32) =>
    some (.inl y19, u16)))))))) (fun (j13_4 : Int32 → Option (g_X × GS)) =>
    if p0 < 0 then
    j13_4 (0 : Int32)
    else
    j13_4 (1 : Int32)))

def g_X9_section (u : GS) (p0 : Int32) (p1 : Int32) : Option (g_X × GS) :=
    g_xb (g_X9_needSection u p0) id (fun (y1 : Int32) (u2 : GS) =>
    g_bind (g_X9_isWithin p1 (0 : Int32) (5 : Int32)) (fun (y4 : Int32) =>
    g_xb (g_X9_needArgument u2 y4) id (fun (y6 : Int32) (u7 : GS) =>
    if p1 = 0 then
    g_bind (g_X8_speedAt u7 p0) (fun (y9 : Int32) =>
    some (.inl y9, u7))
    else
    if p1 = 1 then
    g_bind (g_X1_beliefAt u7 p0) (fun (y11 : Int32) =>
    some (.inl y11, u7))
    else
    if p1 = 2 then
    g_bind (g_X1_guessAt u7 p0) (fun (y13 : Int32) =>
    some (.inl y13, u7))
    else
    if p1 = 3 then
    g_in p0 12 (
    some (.inl (cS_shown u7 p0.toNatClampNeg), u7))
    else
    if p1 = 4 then
    g_in p0 12 (
    if (cT_broken u7 p0.toNatClampNeg) = 0 then
    some (.inl (0 : Int32), u7)
    else
    some (.inl (1 : Int32), u7))
    else
    g_in p0 12 (
    some (.inl (cD_is u7 p0.toNatClampNeg), u7)))))

def g_X9_holds (u : GS) (p0 : Int32) (p1 : Int32) : Option (g_X × GS) :=
    g_xb (g_X9_needPlace u p0 p1) id (fun (y1 : Int32) (u2 : GS) =>
    g_bind (g_X9_placeOf p0 p1) (fun (y4 : Int32) =>
    g_in y4 48 (
    some (.inl (cT_held u2 y4.toNatClampNeg), u2))))

def lp_X8_countOnRoad_4 (u : GS) (k : Int32 → Option (Int32)) : Nat → Int32 → Int32 → Option (Int32)
  | 0, _, _ => none
  | n + 1, x1_4, x2_4 =>
    if (48 : Int32) ≤ x2_4 then
    k x1_4
    else
    g_in x2_4 48 (
    g_let (x1_4 + (cT_held u x2_4.toNatClampNeg)) (fun (v3 : Int32) =>
    g_let (x2_4 + 1) (fun (v4 : Int32) =>
    lp_X8_countOnRoad_4 u k n v3 v4)))
def g_X8_countOnRoad (u : GS) : Option (Int32) :=
    lp_X8_countOnRoad_4 u (fun (x1_4 : Int32)  => some x1_4) FU (0 : Int32) (0 : Int32)

def g_X9_vehicles (u : GS) (p0 : Int32) : Option (g_X × GS) :=
    g_bind (g_X9_isWithin p0 (0 : Int32) (3 : Int32)) (fun (y1 : Int32) =>
    g_xb (g_X9_needArgument u y1) id (fun (y3 : Int32) (u4 : GS) =>
    if p0 = 0 then
    some (.inl (cT_came u4), u4)
    else
    if p0 = 1 then
    g_bind (g_X8_countOnRoad u4) (fun (y6 : Int32) =>
    some (.inl y6, u4))
    else
    if p0 = 2 then
    some (.inl (cT_waiting u4), u4)
    else
    some (.inl (cT_gone u4), u4)))

def lp_X6_shutAll_4 (k : Int32 → GS → Option (Int32 × GS)) : Nat → Int32 → Int32 → GS → Option (Int32 × GS)
  | 0, _, _, _ => none
  | n + 1, x1_4, x2_4, w4 =>
    if (12 : Int32) ≤ x2_4 then
    k x1_4 w4
    else
    g_in x2_4 12 (
    g_let (fun (x1_29 : Int32) (w29 : GS) => g_let (x2_4 + 1) (fun (v4 : Int32) =>
    lp_X6_shutAll_4 k n x1_29 v4 w29)) (fun (j29_3 : Int32 → GS → Option (Int32 × GS)) =>
    if (cH_open w4 x2_4.toNatClampNeg) = 0 then
    j29_3 x1_4 w4
    else
    g_in x2_4 12 (
    g_let (cH_open_set w4 (upd (cH_open w4) x2_4.toNatClampNeg (vp_nar .boolean (0 : Int32)))) (fun (u7 : GS) =>
    g_let (x1_4 + 1) (fun (v8 : Int32) =>
    j29_3 v8 u7)))))
def g_X6_shutAll (u : GS) : Option (Int32 × GS) :=
    lp_X6_shutAll_4 (fun (x1_4 : Int32) (w4 : GS)  => some (x1_4, w4)) FU (0 : Int32) (0 : Int32) u

def g_X9_stop (u : GS) (p0 : Int32) (p1 : Int32) : Option (g_X × GS) :=
    g_xb (g_X9_needPlace u p0 p1) id (fun (y1 : Int32) (u2 : GS) =>
    g_bind (g_X9_placeOf p0 p1) (fun (y4 : Int32) =>
    g_in y4 48 (
    g_let (fun (z0_28 : Int32) => g_xb (g_X9_needState u2 z0_28) id (fun (y8 : Int32) (u9 : GS) =>
    g_in y4 48 (
    g_let (cT_stopped_set u9 (upd (cT_stopped u9) y4.toNatClampNeg (vp_nar .boolean (1 : Int32)))) (fun (u12 : GS) =>
    if p1 = 0 then
    g_in p0 12 (
    g_let (cH_foundClearAt_set u12 (upd (cH_foundClearAt u12) p0.toNatClampNeg (-1000 : Int32))) (fun (u15 : GS) =>
    g_bind (g_X6_shutAll u15) (fun (y16 : Int32 × GS) =>
    some (.inl 0, y16.2))))
    else
    some (.inl 0, u12))))) (fun (j28_7 : Int32 → Option (g_X × GS)) =>
    if (cT_stopped u2 y4.toNatClampNeg) = 0 then
    j28_7 (1 : Int32)
    else
    j28_7 (0 : Int32)))))

def g_X7_wantBy (p0 : Int32) : Option (Int32) :=
    if p0 = (-1 : Int32) then
    some (60 : Int32)
    else
    if (40 : Int32) ≤ p0 then
    if (60 : Int32) ≤ p0 then
    if (80 : Int32) ≤ p0 then
    some (120 : Int32)
    else
    some (80 : Int32)
    else
    some (60 : Int32)
    else
    some (40 : Int32)

def g_X7_wantAt (u : GS) (p0 : Int32) (p1 : Int32) : Option (Int32) :=
    g_in p0 12 (
    if (cS_limits u p0.toNatClampNeg) = (-1 : Int32) then
    g_bind (g_X9_isWithin (cS_weather u) (0 : Int32) (3 : Int32)) (fun (y3 : Int32) =>
    g_let (fun (z0_42 : Int32) => g_bind (g_X7_wantBy p1) (fun (y6 : Int32) =>
    some (if z0_42 < y6 then z0_42 else y6))) (fun (j42_5 : Int32 → Option (Int32)) =>
    if y3 = 0 then
    j42_5 (120 : Int32)
    else
    g_in (cS_weather u) 4 (
    j42_5 (wlF (cS_weather u).toNatClampNeg))))
    else
    g_in p0 12 (
    some (cS_limits u p0.toNatClampNeg)))

def g_X7_staysBelow (u : GS) (p0 : Int32) (p1 : Int32) (p2 : Int32) : Option (Int32) :=
    g_in p1 12 (
    if (cS_limits u p1.toNatClampNeg) = (-1 : Int32) then
    g_in p1 12 (
    if p0 ≤ (cS_shown u p1.toNatClampNeg) then
    some (0 : Int32)
    else
    g_in p1 12 (
    if (3 : Int32) ≤ (p2 - (cS_loweredAt u p1.toNatClampNeg)) then
    some (0 : Int32)
    else
    some (1 : Int32)))
    else
    some (0 : Int32))

def lp_X7_setAnew_4 (p0 : Int32) (k : GS → Option (GS)) : Nat → Int32 → GS → Option (GS)
  | 0, _, _ => none
  | n + 1, x4_4, w4 =>
    if x4_4 < 0 then
    k w4
    else
    g_bind (g_X1_beliefAt w4 x4_4) (fun (y2 : Int32) =>
    g_bind (g_X7_wantAt w4 x4_4 y2) (fun (y4 : Int32) =>
    g_bind (g_X7_staysBelow w4 y4 x4_4 p0) (fun (y6 : Int32) =>
    g_let (fun (z0_48 : Int32) => g_let (fun (x6_78 : Int32) => g_in x4_4 12 (
    g_let (fun (w98 : GS) => g_in x4_4 12 (
    g_let (cS_shown_set w98 (upd (cS_shown w98) x4_4.toNatClampNeg x6_78)) (fun (u13 : GS) =>
    g_let (x4_4 + (-1)) (fun (v14 : Int32) =>
    lp_X7_setAnew_4 p0 k n v14 u13)))) (fun (j98_11 : GS → Option (GS)) =>
    if (cS_shown w4 x4_4.toNatClampNeg) ≤ x6_78 then
    j98_11 w4
    else
    g_in x4_4 12 (
    g_let (cS_loweredAt_set w4 (upd (cS_loweredAt w4) x4_4.toNatClampNeg p0)) (fun (u17 : GS) =>
    j98_11 u17))))) (fun (j78_9 : Int32 → Option (GS)) =>
    if (12 : Int32) ≤ (x4_4 + (1 : Int32)) then
    j78_9 z0_48
    else
    g_in (x4_4 + (1 : Int32)) 12 (
    g_let (if ((cS_shown w4 (x4_4 + (1 : Int32)).toNatClampNeg) + (20 : Int32)) < z0_48 then ((cS_shown w4 (x4_4 + (1 : Int32)).toNatClampNeg) + (20 : Int32)) else z0_48) (fun (v20 : Int32) =>
    j78_9 v20)))) (fun (j48_8 : Int32 → Option (GS)) =>
    if y6 = 0 then
    j48_8 y4
    else
    g_in x4_4 12 (
    j48_8 (cS_shown w4 x4_4.toNatClampNeg))))))
def g_X7_setAnew (u : GS) (p0 : Int32) : Option (GS) :=
    lp_X7_setAnew_4 p0 (fun (w4 : GS)  => some w4) FU (11 : Int32) u

def lp_X5_keep_19 (x4_3 : Int32) (w3 : GS) (k : Int32 → Option (GS)) : Nat → Int32 → Int32 → Option (GS)
  | 0, _, _ => none
  | n + 1, x5_19, x6_19 =>
    if x6_19 < 0 then
    k x5_19
    else
    g_bind (g_X9_placeOf x4_3 x6_19) (fun (y5 : Int32) =>
    g_in y5 48 (
    g_let ((x5_19 * (4 : Int32)) + (cL_shown w3 y5.toNatClampNeg)) (fun (v8 : Int32) =>
    g_let (x6_19 + (-1)) (fun (v9 : Int32) =>
    lp_X5_keep_19 x4_3 w3 k n v8 v9))))
def lp_X5_keep_3 (p0 : Int32) (k : GS → Option (GS)) : Nat → Int32 → GS → Option (GS)
  | 0, _, _ => none
  | n + 1, x4_3, w3 =>
    if (12 : Int32) ≤ x4_3 then
    k w3
    else
    g_in x4_3 12 (
    g_let (cS_shown w3 x4_3.toNatClampNeg) (fun (v3 : Int32) =>
    lp_X5_keep_19 x4_3 w3 (fun (x5_19 : Int32)  => g_bind (g_X5_slotOf p0 x4_3) (fun (y10 : Int32) =>
    g_in y10 720 (
    g_let (cK_kept_set w3 (upd (cK_kept w3) y10.toNatClampNeg x5_19)) (fun (u13 : GS) =>
    g_let (x4_3 + 1) (fun (v14 : Int32) =>
    lp_X5_keep_3 p0 k n v14 u13))))) FU v3 (3 : Int32)))
def g_X5_keep (u : GS) (p0 : Int32) : Option (GS) :=
    lp_X5_keep_3 p0 (fun (w3 : GS)  => some w3) FU (0 : Int32) u

def lp_L_isShown_114 (p0 : Int32) (x3_31 : Int32) (k : Int32 → GS → Option (g_X × GS)) : Nat → Int32 → Int32 → GS → Option (g_X × GS)
  | 0, _, _, _ => none
  | n + 1, x2_114, x5_114, w114 =>
    if (4 : Int32) ≤ x5_114 then
    k x2_114 w114
    else
    g_let (fun (z0_149 : Int32) (w149 : GS) => g_let (x5_114 + 1) (fun (v13 : Int32) =>
    lp_L_isShown_114 p0 x3_31 k n z0_149 v13 w149)) (fun (j149_12 : Int32 → GS → Option (g_X × GS)) =>
    g_let (fun (w148 : GS) => j149_12 (0 : Int32) w148) (fun (j148_14 : GS → Option (g_X × GS)) =>
    if x2_114 = 0 then
    j148_14 w114
    else
    g_xb (g_X9_proof w114 p0 x3_31 ((1 : Int32) + x5_114)) id (fun (y16 : Int32) (u17 : GS) =>
    g_xb (g_X9_sign u17 x3_31 x5_114) id (fun (y19 : Int32) (u20 : GS) =>
    if y16 = y19 then
    j149_12 (1 : Int32) u20
    else
    j148_14 u20))))
def lp_L_isShown_31 (p0 : Int32) (k : Int32 → GS → Option (g_X × GS)) : Nat → Int32 → Int32 → GS → Option (g_X × GS)
  | 0, _, _, _ => none
  | n + 1, x2_31, x3_31, w31 =>
    if (12 : Int32) ≤ x3_31 then
    k x2_31 w31
    else
    if x2_31 = 0 then
    k x2_31 w31
    else
    g_xb (g_X9_section w31 x3_31 (3 : Int32)) id (fun (y4 : Int32) (u5 : GS) =>
    g_xb (g_X9_proof u5 p0 x3_31 (0 : Int32)) id (fun (y7 : Int32) (u8 : GS) =>
    g_let (fun (z0_110 : Int32) (w110 : GS) => lp_L_isShown_114 p0 x3_31 (fun (x2_114 : Int32) (w114 : GS)  => g_let (x3_31 + 1) (fun (v23 : Int32) =>
    lp_L_isShown_31 p0 k n x2_114 v23 w114)) FU z0_110 (0 : Int32) w110) (fun (j110_10 : Int32 → GS → Option (g_X × GS)) =>
    g_let (fun (w109 : GS) => j110_10 (0 : Int32) w109) (fun (j109_24 : GS → Option (g_X × GS)) =>
    if y7 = y4 then
    if y4 < (40 : Int32) then
    j109_24 u8
    else
    if (120 : Int32) < y4 then
    j109_24 u8
    else
    if (y4 - y4 / (20 : Int32) * (20 : Int32)) = 0 then
    g_let (fun (w105 : GS) => j110_10 (1 : Int32) w105) (fun (j105_29 : GS → Option (g_X × GS)) =>
    if x3_31 = (11 : Int32) then
    j105_29 u8
    else
    g_xb (g_X9_section u8 (x3_31 + (1 : Int32)) (3 : Int32)) id (fun (y31 : Int32) (u32 : GS) =>
    if (y31 + (20 : Int32)) < y4 then
    j109_24 u32
    else
    j105_29 u32))
    else
    j109_24 u8
    else
    j109_24 u8))))
def g_L_isShown (u : GS) (p0 : Int32) : Option (g_X × GS) :=
    g_let (fun (z0_28 : Int32) (w28 : GS) => lp_L_isShown_31 p0 (fun (x2_31 : Int32) (w31 : GS)  => g_bo x2_31 (some (.inl x2_31, w31))) FU z0_28 (0 : Int32) w28) (fun (j28_1 : Int32 → GS → Option (g_X × GS)) =>
    g_let (fun (w23 : GS) => j28_1 (1 : Int32) w23) (fun (j23_35 : GS → Option (g_X × GS)) =>
    if p0 < (60 : Int32) then
    j23_35 u
    else
    none))

def lp_L_isRoad_25 (x3_9 : Int32) (k : Int32 → Int32 → GS → Option (g_X × GS)) : Nat → Int32 → Int32 → Int32 → GS → Option (g_X × GS)
  | 0, _, _, _, _ => none
  | n + 1, x1_25, x4_25, x5_25, w25 =>
    if (4 : Int32) ≤ x5_25 then
    k x1_25 x4_25 w25
    else
    g_xb (g_X9_holds w25 x3_9 x5_25) id (fun (y7 : Int32) (u8 : GS) =>
    g_let (x1_25 + y7) (fun (v10 : Int32) =>
    g_let (fun (z0_59 : Int32) => g_let (x5_25 + 1) (fun (v12 : Int32) =>
    lp_L_isRoad_25 x3_9 k n v10 z0_59 v12 u8)) (fun (j59_11 : Int32 → Option (g_X × GS)) =>
    if y7 ≤ x4_25 then
    j59_11 x4_25
    else
    j59_11 y7)))
def lp_L_isRoad_9 (k : Int32 → Int32 → GS → Option (g_X × GS)) : Nat → Int32 → Int32 → Int32 → GS → Option (g_X × GS)
  | 0, _, _, _, _ => none
  | n + 1, x1_9, x2_9, x3_9, w9 =>
    if (12 : Int32) ≤ x3_9 then
    k x1_9 x2_9 w9
    else
    if x2_9 = 0 then
    k x1_9 x2_9 w9
    else
    lp_L_isRoad_25 x3_9 (fun (x1_25 : Int32) (x4_25 : Int32) (w25 : GS)  => g_let (fun (z0_146 : Int32) (w146 : GS) => g_let (x3_9 + 1) (fun (v15 : Int32) =>
    lp_L_isRoad_9 k n x1_25 z0_146 v15 w146)) (fun (j146_14 : Int32 → GS → Option (g_X × GS)) =>
    g_let (fun (w145 : GS) => j146_14 (0 : Int32) w145) (fun (j145_16 : GS → Option (g_X × GS)) =>
    if (20 : Int32) < x4_25 then
    j145_16 w25
    else
    g_xb (g_X9_section w25 x3_9 (0 : Int32)) id (fun (y18 : Int32) (u19 : GS) =>
    if y18 = ((120 : Int32) - ((5 : Int32) * x4_25)) then
    g_xb (g_X9_section u19 x3_9 (4 : Int32)) id (fun (y22 : Int32) (u23 : GS) =>
    if y22 < 0 then
    j145_16 u23
    else
    g_xb (g_X9_section u23 x3_9 (1 : Int32)) id (fun (y26 : Int32) (u27 : GS) =>
    if y26 < (-1 : Int32) then
    j145_16 u27
    else
    g_xb (g_X9_section u27 x3_9 (1 : Int32)) id (fun (y30 : Int32) (u31 : GS) =>
    if (120 : Int32) < y30 then
    j145_16 u31
    else
    g_xb (g_X9_section u31 x3_9 (2 : Int32)) id (fun (y34 : Int32) (u35 : GS) =>
    if y34 < (-1 : Int32) then
    j145_16 u35
    else
    g_xb (g_X9_section u35 x3_9 (2 : Int32)) id (fun (y38 : Int32) (u39 : GS) =>
    if (120 : Int32) < y38 then
    j145_16 u39
    else
    j146_14 (1 : Int32) u39)))))
    else
    j145_16 u19)))) FU x1_9 (0 : Int32) (0 : Int32) w9
def g_L_isRoad (u : GS) : Option (g_X × GS) :=
    g_bind (g_X9_isLawful u) (fun (y1 : Int32 × GS) =>
    g_let y1.1 (fun (v3 : Int32) =>
    lp_L_isRoad_9 (fun (x1_9 : Int32) (x2_9 : Int32) (w9 : GS)  => if x2_9 = 0 then
    some (.inl (0 : Int32), w9)
    else
    g_xb (g_X9_vehicles w9 (1 : Int32)) id (fun (y43 : Int32) (u44 : GS) =>
    if x1_9 = y43 then
    some (.inl (1 : Int32), u44)
    else
    some (.inl (0 : Int32), u44))) FU (0 : Int32) v3 (0 : Int32) y1.2))
