abbrev cT_t : Type := (Nat → Int32) × (Nat → Int32) × (Nat → Int32) × Int32 × Int32 × Int32 × Int32
abbrev cD_t : Type := (Nat → Int32) × (Nat → Int32)
abbrev cS_t : Type := (Nat → Int32) × (Nat → Int32) × (Nat → Int32) × Int32
abbrev cL_t : Type := (Nat → Int32) × (Nat → Int32) × (Nat → Int32)
abbrev cH_t : Type := (Nat → Int32) × (Nat → Int32)
abbrev cI_t : Type := (Nat → Int32) × (Nat → Int32) × (Nat → Int32) × Int32
abbrev cP_t : Type := (Nat → Int32) × (Nat → Int32) × (Nat → Int32)
abbrev cB_t : Type := (Nat → Int32) × (Nat → Int32) × (Nat → Int32) × (Nat → Int32) × (Nat → Int32) × Int32
abbrev cK_t : Type := (Nat → Int32)
abbrev GS : Type := Int32 × cT_t × cD_t × cS_t × cL_t × cH_t × cI_t × cP_t × cB_t × cK_t
def c_minute (u : GS) : Int32 := u.1
def c_minute_set (u : GS) (v : Int32) : GS := (v, u.2)
def qcT (u : GS) : cT_t := u.2.1
def qcT_put (u : GS) (v : cT_t) : GS := (u.1, (v, u.2.2))
def cT_held (u : GS) : (Nat → Int32) := u.2.1.1
def cT_held_set (u : GS) (v : (Nat → Int32)) : GS := (u.1, ((v, u.2.1.2), u.2.2))
def cT_stopped (u : GS) : (Nat → Int32) := u.2.1.2.1
def cT_stopped_set (u : GS) (v : (Nat → Int32)) : GS := (u.1, ((u.2.1.1, (v, u.2.1.2.2)), u.2.2))
def cT_broken (u : GS) : (Nat → Int32) := u.2.1.2.2.1
def cT_broken_set (u : GS) (v : (Nat → Int32)) : GS := (u.1, ((u.2.1.1, (u.2.1.2.1, (v, u.2.1.2.2.2))), u.2.2))
def cT_demand (u : GS) : Int32 := u.2.1.2.2.2.1
def cT_demand_set (u : GS) (v : Int32) : GS := (u.1, ((u.2.1.1, (u.2.1.2.1, (u.2.1.2.2.1, (v, u.2.1.2.2.2.2)))), u.2.2))
def cT_came (u : GS) : Int32 := u.2.1.2.2.2.2.1
def cT_came_set (u : GS) (v : Int32) : GS := (u.1, ((u.2.1.1, (u.2.1.2.1, (u.2.1.2.2.1, (u.2.1.2.2.2.1, (v, u.2.1.2.2.2.2.2))))), u.2.2))
def cT_waiting (u : GS) : Int32 := u.2.1.2.2.2.2.2.1
def cT_waiting_set (u : GS) (v : Int32) : GS := (u.1, ((u.2.1.1, (u.2.1.2.1, (u.2.1.2.2.1, (u.2.1.2.2.2.1, (u.2.1.2.2.2.2.1, (v, u.2.1.2.2.2.2.2.2)))))), u.2.2))
def cT_gone (u : GS) : Int32 := u.2.1.2.2.2.2.2.2
def cT_gone_set (u : GS) (v : Int32) : GS := (u.1, ((u.2.1.1, (u.2.1.2.1, (u.2.1.2.2.1, (u.2.1.2.2.2.1, (u.2.1.2.2.2.2.1, (u.2.1.2.2.2.2.2.1, v)))))), u.2.2))
def qcD (u : GS) : cD_t := u.2.2.1
def qcD_put (u : GS) (v : cD_t) : GS := (u.1, (u.2.1, (v, u.2.2.2)))
def cD_is (u : GS) : (Nat → Int32) := u.2.2.1.1
def cD_is_set (u : GS) (v : (Nat → Int32)) : GS := (u.1, (u.2.1, ((v, u.2.2.1.2), u.2.2.2)))
def cD_stuckAt (u : GS) : (Nat → Int32) := u.2.2.1.2
def cD_stuckAt_set (u : GS) (v : (Nat → Int32)) : GS := (u.1, (u.2.1, ((u.2.2.1.1, v), u.2.2.2)))
def qcS (u : GS) : cS_t := u.2.2.2.1
def qcS_put (u : GS) (v : cS_t) : GS := (u.1, (u.2.1, (u.2.2.1, (v, u.2.2.2.2))))
def cS_limits (u : GS) : (Nat → Int32) := u.2.2.2.1.1
def cS_limits_set (u : GS) (v : (Nat → Int32)) : GS := (u.1, (u.2.1, (u.2.2.1, ((v, u.2.2.2.1.2), u.2.2.2.2))))
def cS_shown (u : GS) : (Nat → Int32) := u.2.2.2.1.2.1
def cS_shown_set (u : GS) (v : (Nat → Int32)) : GS := (u.1, (u.2.1, (u.2.2.1, ((u.2.2.2.1.1, (v, u.2.2.2.1.2.2)), u.2.2.2.2))))
def cS_loweredAt (u : GS) : (Nat → Int32) := u.2.2.2.1.2.2.1
def cS_loweredAt_set (u : GS) (v : (Nat → Int32)) : GS := (u.1, (u.2.1, (u.2.2.1, ((u.2.2.2.1.1, (u.2.2.2.1.2.1, (v, u.2.2.2.1.2.2.2))), u.2.2.2.2))))
def cS_weather (u : GS) : Int32 := u.2.2.2.1.2.2.2
def cS_weather_set (u : GS) (v : Int32) : GS := (u.1, (u.2.1, (u.2.2.1, ((u.2.2.2.1.1, (u.2.2.2.1.2.1, (u.2.2.2.1.2.2.1, v))), u.2.2.2.2))))
def qcL (u : GS) : cL_t := u.2.2.2.2.1
def qcL_put (u : GS) (v : cL_t) : GS := (u.1, (u.2.1, (u.2.2.1, (u.2.2.2.1, (v, u.2.2.2.2.2)))))
def cL_orders (u : GS) : (Nat → Int32) := u.2.2.2.2.1.1
def cL_orders_set (u : GS) (v : (Nat → Int32)) : GS := (u.1, (u.2.1, (u.2.2.1, (u.2.2.2.1, ((v, u.2.2.2.2.1.2), u.2.2.2.2.2)))))
def cL_told (u : GS) : (Nat → Int32) := u.2.2.2.2.1.2.1
def cL_told_set (u : GS) (v : (Nat → Int32)) : GS := (u.1, (u.2.1, (u.2.2.1, (u.2.2.2.1, ((u.2.2.2.2.1.1, (v, u.2.2.2.2.1.2.2)), u.2.2.2.2.2)))))
def cL_shown (u : GS) : (Nat → Int32) := u.2.2.2.2.1.2.2
def cL_shown_set (u : GS) (v : (Nat → Int32)) : GS := (u.1, (u.2.1, (u.2.2.1, (u.2.2.2.1, ((u.2.2.2.2.1.1, (u.2.2.2.2.1.2.1, v)), u.2.2.2.2.2)))))
def qcH (u : GS) : cH_t := u.2.2.2.2.2.1
def qcH_put (u : GS) (v : cH_t) : GS := (u.1, (u.2.1, (u.2.2.1, (u.2.2.2.1, (u.2.2.2.2.1, (v, u.2.2.2.2.2.2))))))
def cH_open (u : GS) : (Nat → Int32) := u.2.2.2.2.2.1.1
def cH_open_set (u : GS) (v : (Nat → Int32)) : GS := (u.1, (u.2.1, (u.2.2.1, (u.2.2.2.1, (u.2.2.2.2.1, ((v, u.2.2.2.2.2.1.2), u.2.2.2.2.2.2))))))
def cH_foundClearAt (u : GS) : (Nat → Int32) := u.2.2.2.2.2.1.2
def cH_foundClearAt_set (u : GS) (v : (Nat → Int32)) : GS := (u.1, (u.2.1, (u.2.2.1, (u.2.2.2.1, (u.2.2.2.2.1, ((u.2.2.2.2.2.1.1, v), u.2.2.2.2.2.2))))))
def qcI (u : GS) : cI_t := u.2.2.2.2.2.2.1
def qcI_put (u : GS) (v : cI_t) : GS := (u.1, (u.2.1, (u.2.2.1, (u.2.2.2.1, (u.2.2.2.2.1, (u.2.2.2.2.2.1, (v, u.2.2.2.2.2.2.2)))))))
def cI_places (u : GS) : (Nat → Int32) := u.2.2.2.2.2.2.1.1
def cI_places_set (u : GS) (v : (Nat → Int32)) : GS := (u.1, (u.2.1, (u.2.2.1, (u.2.2.2.1, (u.2.2.2.2.1, (u.2.2.2.2.2.1, ((v, u.2.2.2.2.2.2.1.2), u.2.2.2.2.2.2.2)))))))
def cI_how (u : GS) : (Nat → Int32) := u.2.2.2.2.2.2.1.2.1
def cI_how_set (u : GS) (v : (Nat → Int32)) : GS := (u.1, (u.2.1, (u.2.2.1, (u.2.2.2.1, (u.2.2.2.2.1, (u.2.2.2.2.2.1, ((u.2.2.2.2.2.2.1.1, (v, u.2.2.2.2.2.2.1.2.2)), u.2.2.2.2.2.2.2)))))))
def cI_patrols (u : GS) : (Nat → Int32) := u.2.2.2.2.2.2.1.2.2.1
def cI_patrols_set (u : GS) (v : (Nat → Int32)) : GS := (u.1, (u.2.1, (u.2.2.1, (u.2.2.2.1, (u.2.2.2.2.1, (u.2.2.2.2.2.1, ((u.2.2.2.2.2.2.1.1, (u.2.2.2.2.2.2.1.2.1, (v, u.2.2.2.2.2.2.1.2.2.2))), u.2.2.2.2.2.2.2)))))))
def cI_count (u : GS) : Int32 := u.2.2.2.2.2.2.1.2.2.2
def cI_count_set (u : GS) (v : Int32) : GS := (u.1, (u.2.1, (u.2.2.1, (u.2.2.2.1, (u.2.2.2.2.1, (u.2.2.2.2.2.1, ((u.2.2.2.2.2.2.1.1, (u.2.2.2.2.2.2.1.2.1, (u.2.2.2.2.2.2.1.2.2.1, v))), u.2.2.2.2.2.2.2)))))))
def qcP (u : GS) : cP_t := u.2.2.2.2.2.2.2.1
def qcP_put (u : GS) (v : cP_t) : GS := (u.1, (u.2.1, (u.2.2.1, (u.2.2.2.1, (u.2.2.2.2.1, (u.2.2.2.2.2.1, (u.2.2.2.2.2.2.1, (v, u.2.2.2.2.2.2.2.2))))))))
def cP_sections (u : GS) : (Nat → Int32) := u.2.2.2.2.2.2.2.1.1
def cP_sections_set (u : GS) (v : (Nat → Int32)) : GS := (u.1, (u.2.1, (u.2.2.1, (u.2.2.2.1, (u.2.2.2.2.1, (u.2.2.2.2.2.1, (u.2.2.2.2.2.2.1, ((v, u.2.2.2.2.2.2.2.1.2), u.2.2.2.2.2.2.2.2))))))))
def cP_incidents (u : GS) : (Nat → Int32) := u.2.2.2.2.2.2.2.1.2.1
def cP_incidents_set (u : GS) (v : (Nat → Int32)) : GS := (u.1, (u.2.1, (u.2.2.1, (u.2.2.2.1, (u.2.2.2.2.1, (u.2.2.2.2.2.1, (u.2.2.2.2.2.2.1, ((u.2.2.2.2.2.2.2.1.1, (v, u.2.2.2.2.2.2.2.1.2.2)), u.2.2.2.2.2.2.2.2))))))))
def cP_minutesLeft (u : GS) : (Nat → Int32) := u.2.2.2.2.2.2.2.1.2.2
def cP_minutesLeft_set (u : GS) (v : (Nat → Int32)) : GS := (u.1, (u.2.1, (u.2.2.1, (u.2.2.2.1, (u.2.2.2.2.1, (u.2.2.2.2.2.1, (u.2.2.2.2.2.2.1, ((u.2.2.2.2.2.2.2.1.1, (u.2.2.2.2.2.2.2.1.2.1, v)), u.2.2.2.2.2.2.2.2))))))))
def qcB (u : GS) : cB_t := u.2.2.2.2.2.2.2.2.1
def qcB_put (u : GS) (v : cB_t) : GS := (u.1, (u.2.1, (u.2.2.1, (u.2.2.2.1, (u.2.2.2.2.1, (u.2.2.2.2.2.1, (u.2.2.2.2.2.2.1, (u.2.2.2.2.2.2.2.1, (v, u.2.2.2.2.2.2.2.2.2)))))))))
def cB_lanes (u : GS) : (Nat → Int32) := u.2.2.2.2.2.2.2.2.1.1
def cB_lanes_set (u : GS) (v : (Nat → Int32)) : GS := (u.1, (u.2.1, (u.2.2.1, (u.2.2.2.1, (u.2.2.2.2.1, (u.2.2.2.2.2.1, (u.2.2.2.2.2.2.1, (u.2.2.2.2.2.2.2.1, ((v, u.2.2.2.2.2.2.2.2.1.2), u.2.2.2.2.2.2.2.2.2)))))))))
def cB_froms (u : GS) : (Nat → Int32) := u.2.2.2.2.2.2.2.2.1.2.1
def cB_froms_set (u : GS) (v : (Nat → Int32)) : GS := (u.1, (u.2.1, (u.2.2.1, (u.2.2.2.1, (u.2.2.2.2.1, (u.2.2.2.2.2.1, (u.2.2.2.2.2.2.1, (u.2.2.2.2.2.2.2.1, ((u.2.2.2.2.2.2.2.2.1.1, (v, u.2.2.2.2.2.2.2.2.1.2.2)), u.2.2.2.2.2.2.2.2.2)))))))))
def cB_tos (u : GS) : (Nat → Int32) := u.2.2.2.2.2.2.2.2.1.2.2.1
def cB_tos_set (u : GS) (v : (Nat → Int32)) : GS := (u.1, (u.2.1, (u.2.2.1, (u.2.2.2.1, (u.2.2.2.2.1, (u.2.2.2.2.2.1, (u.2.2.2.2.2.2.1, (u.2.2.2.2.2.2.2.1, ((u.2.2.2.2.2.2.2.2.1.1, (u.2.2.2.2.2.2.2.2.1.2.1, (v, u.2.2.2.2.2.2.2.2.1.2.2.2))), u.2.2.2.2.2.2.2.2.2)))))))))
def cB_begins (u : GS) : (Nat → Int32) := u.2.2.2.2.2.2.2.2.1.2.2.2.1
def cB_begins_set (u : GS) (v : (Nat → Int32)) : GS := (u.1, (u.2.1, (u.2.2.1, (u.2.2.2.1, (u.2.2.2.2.1, (u.2.2.2.2.2.1, (u.2.2.2.2.2.2.1, (u.2.2.2.2.2.2.2.1, ((u.2.2.2.2.2.2.2.2.1.1, (u.2.2.2.2.2.2.2.2.1.2.1, (u.2.2.2.2.2.2.2.2.1.2.2.1, (v, u.2.2.2.2.2.2.2.2.1.2.2.2.2)))), u.2.2.2.2.2.2.2.2.2)))))))))
def cB_ends (u : GS) : (Nat → Int32) := u.2.2.2.2.2.2.2.2.1.2.2.2.2.1
def cB_ends_set (u : GS) (v : (Nat → Int32)) : GS := (u.1, (u.2.1, (u.2.2.1, (u.2.2.2.1, (u.2.2.2.2.1, (u.2.2.2.2.2.1, (u.2.2.2.2.2.2.1, (u.2.2.2.2.2.2.2.1, ((u.2.2.2.2.2.2.2.2.1.1, (u.2.2.2.2.2.2.2.2.1.2.1, (u.2.2.2.2.2.2.2.2.1.2.2.1, (u.2.2.2.2.2.2.2.2.1.2.2.2.1, (v, u.2.2.2.2.2.2.2.2.1.2.2.2.2.2))))), u.2.2.2.2.2.2.2.2.2)))))))))
def cB_count (u : GS) : Int32 := u.2.2.2.2.2.2.2.2.1.2.2.2.2.2
def cB_count_set (u : GS) (v : Int32) : GS := (u.1, (u.2.1, (u.2.2.1, (u.2.2.2.1, (u.2.2.2.2.1, (u.2.2.2.2.2.1, (u.2.2.2.2.2.2.1, (u.2.2.2.2.2.2.2.1, ((u.2.2.2.2.2.2.2.2.1.1, (u.2.2.2.2.2.2.2.2.1.2.1, (u.2.2.2.2.2.2.2.2.1.2.2.1, (u.2.2.2.2.2.2.2.2.1.2.2.2.1, (u.2.2.2.2.2.2.2.2.1.2.2.2.2.1, v))))), u.2.2.2.2.2.2.2.2.2)))))))))
def qcK (u : GS) : cK_t := u.2.2.2.2.2.2.2.2.2
def qcK_put (u : GS) (v : cK_t) : GS := (u.1, (u.2.1, (u.2.2.1, (u.2.2.2.1, (u.2.2.2.2.1, (u.2.2.2.2.2.1, (u.2.2.2.2.2.2.1, (u.2.2.2.2.2.2.2.1, (u.2.2.2.2.2.2.2.2.1, v)))))))))
def cK_kept (u : GS) : (Nat → Int32) := u.2.2.2.2.2.2.2.2.2
def cK_kept_set (u : GS) (v : (Nat → Int32)) : GS := (u.1, (u.2.1, (u.2.2.1, (u.2.2.2.1, (u.2.2.2.2.1, (u.2.2.2.2.2.1, (u.2.2.2.2.2.2.1, (u.2.2.2.2.2.2.2.1, (u.2.2.2.2.2.2.2.2.1, v)))))))))
def wC (cI cZ : ClassId) (ad : Nat → Nat) (u : GS) : va_W := [(ad 0, .inr (9, [.int (c_minute u), .ref (ad 1), .ref (ad 2), .ref (ad 3), .ref (ad 4), .ref (ad 5), .ref (ad 6), .ref (ad 7), .ref (ad 8), .ref (ad 9)])), (ad 1, .inr (8, [.ref (ad 10), .ref (ad 11), .ref (ad 12), .int (cT_demand u), .int (cT_came u), .int (cT_waiting u), .int (cT_gone u)])), (ad 2, .inr (1, [.ref (ad 13), .ref (ad 14)])), (ad 3, .inr (7, [.ref (ad 15), .ref (ad 16), .ref (ad 17), .int (cS_weather u)])), (ad 4, .inr (3, [.ref (ad 18), .ref (ad 19), .ref (ad 20)])), (ad 5, .inr (6, [.ref (ad 21), .ref (ad 22)])), (ad 6, .inr (2, [.ref (ad 23), .ref (ad 24), .ref (ad 25), .int (cI_count u)])), (ad 7, .inr (4, [.ref (ad 26), .ref (ad 27), .ref (ad 28)])), (ad 8, .inr (0, [.ref (ad 29), .ref (ad 30), .ref (ad 31), .ref (ad 32), .ref (ad 33), .int (cB_count u)])), (ad 9, .inr (5, [.ref (ad 34)])), (ad 10, .inl (cI, 48, .inl (cT_held u))), (ad 11, .inl (cZ, 48, .inl (cT_stopped u))), (ad 12, .inl (cZ, 12, .inl (cT_broken u))), (ad 13, .inl (cI, 12, .inl (cD_is u))), (ad 14, .inl (cI, 12, .inl (cD_stuckAt u))), (ad 15, .inl (cI, 12, .inl (cS_limits u))), (ad 16, .inl (cI, 12, .inl (cS_shown u))), (ad 17, .inl (cI, 12, .inl (cS_loweredAt u))), (ad 18, .inl (cI, 48, .inl (cL_orders u))), (ad 19, .inl (cI, 48, .inl (cL_told u))), (ad 20, .inl (cI, 48, .inl (cL_shown u))), (ad 21, .inl (cZ, 12, .inl (cH_open u))), (ad 22, .inl (cI, 12, .inl (cH_foundClearAt u))), (ad 23, .inl (cI, 12, .inl (cI_places u))), (ad 24, .inl (cI, 12, .inl (cI_how u))), (ad 25, .inl (cI, 12, .inl (cI_patrols u))), (ad 26, .inl (cI, 3, .inl (cP_sections u))), (ad 27, .inl (cI, 3, .inl (cP_incidents u))), (ad 28, .inl (cI, 3, .inl (cP_minutesLeft u))), (ad 29, .inl (cI, 8, .inl (cB_lanes u))), (ad 30, .inl (cI, 8, .inl (cB_froms u))), (ad 31, .inl (cI, 8, .inl (cB_tos u))), (ad 32, .inl (cI, 8, .inl (cB_begins u))), (ad 33, .inl (cI, 8, .inl (cB_ends u))), (ad 34, .inl (cI, 720, .inl (cK_kept u)))]
abbrev mT_t : Type := (Nat → Int32) × (Nat → Int32) × (Nat → Int32) × Int32 × Int32 × Int32 × Int32
abbrev mD_t : Type := (Nat → Int32) × (Nat → Int32)
abbrev mS_t : Type := (Nat → Int32) × (Nat → Int32) × (Nat → Int32) × Int32
abbrev mL_t : Type := (Nat → Int32)
abbrev mH_t : Type := (Nat → Int32) × (Nat → Int32) × (Nat → Int32)
abbrev mI_t : Type := (Nat → Int32) × (Nat → Int32) × Int32
abbrev mP_t : Type := (Nat → Int32) × (Nat → Int32) × (Nat → Int32)
abbrev mB_t : Type := (Nat → Int32) × (Nat → Int32) × (Nat → Int32) × (Nat → Int32) × (Nat → Int32) × Int32
abbrev mK_t : Type := (Nat → Int32)
abbrev MS : Type := Int32 × Int32 × mT_t × mD_t × mS_t × mL_t × mH_t × mI_t × mP_t × mB_t × mK_t
def m_thrown (u : MS) : Int32 := u.1
def m_thrown_set (u : MS) (v : Int32) : MS := (v, u.2)
def m_now (u : MS) : Int32 := u.2.1
def m_now_set (u : MS) (v : Int32) : MS := (u.1, (v, u.2.2))
def qmT (u : MS) : mT_t := u.2.2.1
def qmT_put (u : MS) (v : mT_t) : MS := (u.1, (u.2.1, (v, u.2.2.2)))
def mT_holding (u : MS) : (Nat → Int32) := u.2.2.1.1
def mT_holding_set (u : MS) (v : (Nat → Int32)) : MS := (u.1, (u.2.1, ((v, u.2.2.1.2), u.2.2.2)))
def mT_isStopped (u : MS) : (Nat → Int32) := u.2.2.1.2.1
def mT_isStopped_set (u : MS) (v : (Nat → Int32)) : MS := (u.1, (u.2.1, ((u.2.2.1.1, (v, u.2.2.1.2.2)), u.2.2.2)))
def mT_isBroken (u : MS) : (Nat → Int32) := u.2.2.1.2.2.1
def mT_isBroken_set (u : MS) (v : (Nat → Int32)) : MS := (u.1, (u.2.1, ((u.2.2.1.1, (u.2.2.1.2.1, (v, u.2.2.1.2.2.2))), u.2.2.2)))
def mT_demand (u : MS) : Int32 := u.2.2.1.2.2.2.1
def mT_demand_set (u : MS) (v : Int32) : MS := (u.1, (u.2.1, ((u.2.2.1.1, (u.2.2.1.2.1, (u.2.2.1.2.2.1, (v, u.2.2.1.2.2.2.2)))), u.2.2.2)))
def mT_came (u : MS) : Int32 := u.2.2.1.2.2.2.2.1
def mT_came_set (u : MS) (v : Int32) : MS := (u.1, (u.2.1, ((u.2.2.1.1, (u.2.2.1.2.1, (u.2.2.1.2.2.1, (u.2.2.1.2.2.2.1, (v, u.2.2.1.2.2.2.2.2))))), u.2.2.2)))
def mT_waiting (u : MS) : Int32 := u.2.2.1.2.2.2.2.2.1
def mT_waiting_set (u : MS) (v : Int32) : MS := (u.1, (u.2.1, ((u.2.2.1.1, (u.2.2.1.2.1, (u.2.2.1.2.2.1, (u.2.2.1.2.2.2.1, (u.2.2.1.2.2.2.2.1, (v, u.2.2.1.2.2.2.2.2.2)))))), u.2.2.2)))
def mT_gone (u : MS) : Int32 := u.2.2.1.2.2.2.2.2.2
def mT_gone_set (u : MS) (v : Int32) : MS := (u.1, (u.2.1, ((u.2.2.1.1, (u.2.2.1.2.1, (u.2.2.1.2.2.1, (u.2.2.1.2.2.2.1, (u.2.2.1.2.2.2.2.1, (u.2.2.1.2.2.2.2.2.1, v)))))), u.2.2.2)))
def qmD (u : MS) : mD_t := u.2.2.2.1
def qmD_put (u : MS) (v : mD_t) : MS := (u.1, (u.2.1, (u.2.2.1, (v, u.2.2.2.2))))
def mD_detects (u : MS) : (Nat → Int32) := u.2.2.2.1.1
def mD_detects_set (u : MS) (v : (Nat → Int32)) : MS := (u.1, (u.2.1, (u.2.2.1, ((v, u.2.2.2.1.2), u.2.2.2.2))))
def mD_stuckAt (u : MS) : (Nat → Int32) := u.2.2.2.1.2
def mD_stuckAt_set (u : MS) (v : (Nat → Int32)) : MS := (u.1, (u.2.1, (u.2.2.1, ((u.2.2.2.1.1, v), u.2.2.2.2))))
def qmS (u : MS) : mS_t := u.2.2.2.2.1
def qmS_put (u : MS) (v : mS_t) : MS := (u.1, (u.2.1, (u.2.2.1, (u.2.2.2.1, (v, u.2.2.2.2.2)))))
def mS_limited (u : MS) : (Nat → Int32) := u.2.2.2.2.1.1
def mS_limited_set (u : MS) (v : (Nat → Int32)) : MS := (u.1, (u.2.1, (u.2.2.1, (u.2.2.2.1, ((v, u.2.2.2.2.1.2), u.2.2.2.2.2)))))
def mS_speedSign (u : MS) : (Nat → Int32) := u.2.2.2.2.1.2.1
def mS_speedSign_set (u : MS) (v : (Nat → Int32)) : MS := (u.1, (u.2.1, (u.2.2.1, (u.2.2.2.1, ((u.2.2.2.2.1.1, (v, u.2.2.2.2.1.2.2)), u.2.2.2.2.2)))))
def mS_lowered (u : MS) : (Nat → Int32) := u.2.2.2.2.1.2.2.1
def mS_lowered_set (u : MS) (v : (Nat → Int32)) : MS := (u.1, (u.2.1, (u.2.2.1, (u.2.2.2.1, ((u.2.2.2.2.1.1, (u.2.2.2.2.1.2.1, (v, u.2.2.2.2.1.2.2.2))), u.2.2.2.2.2)))))
def mS_weather (u : MS) : Int32 := u.2.2.2.2.1.2.2.2
def mS_weather_set (u : MS) (v : Int32) : MS := (u.1, (u.2.1, (u.2.2.1, (u.2.2.2.1, ((u.2.2.2.2.1.1, (u.2.2.2.2.1.2.1, (u.2.2.2.2.1.2.2.1, v))), u.2.2.2.2.2)))))
def qmL (u : MS) : mL_t := u.2.2.2.2.2.1
def qmL_put (u : MS) (v : mL_t) : MS := (u.1, (u.2.1, (u.2.2.1, (u.2.2.2.1, (u.2.2.2.2.1, (v, u.2.2.2.2.2.2))))))
def mL_ordered (u : MS) : (Nat → Int32) := u.2.2.2.2.2.1
def mL_ordered_set (u : MS) (v : (Nat → Int32)) : MS := (u.1, (u.2.1, (u.2.2.1, (u.2.2.2.1, (u.2.2.2.2.1, (v, u.2.2.2.2.2.2))))))
def qmH (u : MS) : mH_t := u.2.2.2.2.2.2.1
def qmH_put (u : MS) (v : mH_t) : MS := (u.1, (u.2.1, (u.2.2.1, (u.2.2.2.1, (u.2.2.2.2.1, (u.2.2.2.2.2.1, (v, u.2.2.2.2.2.2.2)))))))
def mH_isOpen (u : MS) : (Nat → Int32) := u.2.2.2.2.2.2.1.1
def mH_isOpen_set (u : MS) (v : (Nat → Int32)) : MS := (u.1, (u.2.1, (u.2.2.1, (u.2.2.2.1, (u.2.2.2.2.1, (u.2.2.2.2.2.1, ((v, u.2.2.2.2.2.2.1.2), u.2.2.2.2.2.2.2)))))))
def mH_looked (u : MS) : (Nat → Int32) := u.2.2.2.2.2.2.1.2.1
def mH_looked_set (u : MS) (v : (Nat → Int32)) : MS := (u.1, (u.2.1, (u.2.2.1, (u.2.2.2.1, (u.2.2.2.2.1, (u.2.2.2.2.2.1, ((u.2.2.2.2.2.2.1.1, (v, u.2.2.2.2.2.2.1.2.2)), u.2.2.2.2.2.2.2)))))))
def mH_wasClear (u : MS) : (Nat → Int32) := u.2.2.2.2.2.2.1.2.2
def mH_wasClear_set (u : MS) (v : (Nat → Int32)) : MS := (u.1, (u.2.1, (u.2.2.1, (u.2.2.2.1, (u.2.2.2.2.1, (u.2.2.2.2.2.1, ((u.2.2.2.2.2.2.1.1, (u.2.2.2.2.2.2.1.2.1, v)), u.2.2.2.2.2.2.2)))))))
def qmI (u : MS) : mI_t := u.2.2.2.2.2.2.2.1
def qmI_put (u : MS) (v : mI_t) : MS := (u.1, (u.2.1, (u.2.2.1, (u.2.2.2.1, (u.2.2.2.2.1, (u.2.2.2.2.2.1, (u.2.2.2.2.2.2.1, (v, u.2.2.2.2.2.2.2.2))))))))
def mI_placed (u : MS) : (Nat → Int32) := u.2.2.2.2.2.2.2.1.1
def mI_placed_set (u : MS) (v : (Nat → Int32)) : MS := (u.1, (u.2.1, (u.2.2.1, (u.2.2.2.1, (u.2.2.2.2.1, (u.2.2.2.2.2.1, (u.2.2.2.2.2.2.1, ((v, u.2.2.2.2.2.2.2.1.2), u.2.2.2.2.2.2.2.2))))))))
def mI_state (u : MS) : (Nat → Int32) := u.2.2.2.2.2.2.2.1.2.1
def mI_state_set (u : MS) (v : (Nat → Int32)) : MS := (u.1, (u.2.1, (u.2.2.1, (u.2.2.2.1, (u.2.2.2.2.1, (u.2.2.2.2.2.1, (u.2.2.2.2.2.2.1, ((u.2.2.2.2.2.2.2.1.1, (v, u.2.2.2.2.2.2.2.1.2.2)), u.2.2.2.2.2.2.2.2))))))))
def mI_incidents (u : MS) : Int32 := u.2.2.2.2.2.2.2.1.2.2
def mI_incidents_set (u : MS) (v : Int32) : MS := (u.1, (u.2.1, (u.2.2.1, (u.2.2.2.1, (u.2.2.2.2.1, (u.2.2.2.2.2.1, (u.2.2.2.2.2.2.1, ((u.2.2.2.2.2.2.2.1.1, (u.2.2.2.2.2.2.2.1.2.1, v)), u.2.2.2.2.2.2.2.2))))))))
def qmP (u : MS) : mP_t := u.2.2.2.2.2.2.2.2.1
def qmP_put (u : MS) (v : mP_t) : MS := (u.1, (u.2.1, (u.2.2.1, (u.2.2.2.1, (u.2.2.2.2.1, (u.2.2.2.2.2.1, (u.2.2.2.2.2.2.1, (u.2.2.2.2.2.2.2.1, (v, u.2.2.2.2.2.2.2.2.2)))))))))
def mP_at (u : MS) : (Nat → Int32) := u.2.2.2.2.2.2.2.2.1.1
def mP_at_set (u : MS) (v : (Nat → Int32)) : MS := (u.1, (u.2.1, (u.2.2.1, (u.2.2.2.1, (u.2.2.2.2.1, (u.2.2.2.2.2.1, (u.2.2.2.2.2.2.1, (u.2.2.2.2.2.2.2.1, ((v, u.2.2.2.2.2.2.2.2.1.2), u.2.2.2.2.2.2.2.2.2)))))))))
def mP_sentTo (u : MS) : (Nat → Int32) := u.2.2.2.2.2.2.2.2.1.2.1
def mP_sentTo_set (u : MS) (v : (Nat → Int32)) : MS := (u.1, (u.2.1, (u.2.2.1, (u.2.2.2.1, (u.2.2.2.2.1, (u.2.2.2.2.2.1, (u.2.2.2.2.2.2.1, (u.2.2.2.2.2.2.2.1, ((u.2.2.2.2.2.2.2.2.1.1, (v, u.2.2.2.2.2.2.2.2.1.2.2)), u.2.2.2.2.2.2.2.2.2)))))))))
def mP_left (u : MS) : (Nat → Int32) := u.2.2.2.2.2.2.2.2.1.2.2
def mP_left_set (u : MS) (v : (Nat → Int32)) : MS := (u.1, (u.2.1, (u.2.2.1, (u.2.2.2.1, (u.2.2.2.2.1, (u.2.2.2.2.2.1, (u.2.2.2.2.2.2.1, (u.2.2.2.2.2.2.2.1, ((u.2.2.2.2.2.2.2.2.1.1, (u.2.2.2.2.2.2.2.2.1.2.1, v)), u.2.2.2.2.2.2.2.2.2)))))))))
def qmB (u : MS) : mB_t := u.2.2.2.2.2.2.2.2.2.1
def qmB_put (u : MS) (v : mB_t) : MS := (u.1, (u.2.1, (u.2.2.1, (u.2.2.2.1, (u.2.2.2.2.1, (u.2.2.2.2.2.1, (u.2.2.2.2.2.2.1, (u.2.2.2.2.2.2.2.1, (u.2.2.2.2.2.2.2.2.1, (v, u.2.2.2.2.2.2.2.2.2.2))))))))))
def mB_worksLane (u : MS) : (Nat → Int32) := u.2.2.2.2.2.2.2.2.2.1.1
def mB_worksLane_set (u : MS) (v : (Nat → Int32)) : MS := (u.1, (u.2.1, (u.2.2.1, (u.2.2.2.1, (u.2.2.2.2.1, (u.2.2.2.2.2.1, (u.2.2.2.2.2.2.1, (u.2.2.2.2.2.2.2.1, (u.2.2.2.2.2.2.2.2.1, ((v, u.2.2.2.2.2.2.2.2.2.1.2), u.2.2.2.2.2.2.2.2.2.2))))))))))
def mB_worksFrom (u : MS) : (Nat → Int32) := u.2.2.2.2.2.2.2.2.2.1.2.1
def mB_worksFrom_set (u : MS) (v : (Nat → Int32)) : MS := (u.1, (u.2.1, (u.2.2.1, (u.2.2.2.1, (u.2.2.2.2.1, (u.2.2.2.2.2.1, (u.2.2.2.2.2.2.1, (u.2.2.2.2.2.2.2.1, (u.2.2.2.2.2.2.2.2.1, ((u.2.2.2.2.2.2.2.2.2.1.1, (v, u.2.2.2.2.2.2.2.2.2.1.2.2)), u.2.2.2.2.2.2.2.2.2.2))))))))))
def mB_worksTo (u : MS) : (Nat → Int32) := u.2.2.2.2.2.2.2.2.2.1.2.2.1
def mB_worksTo_set (u : MS) (v : (Nat → Int32)) : MS := (u.1, (u.2.1, (u.2.2.1, (u.2.2.2.1, (u.2.2.2.2.1, (u.2.2.2.2.2.1, (u.2.2.2.2.2.2.1, (u.2.2.2.2.2.2.2.1, (u.2.2.2.2.2.2.2.2.1, ((u.2.2.2.2.2.2.2.2.2.1.1, (u.2.2.2.2.2.2.2.2.2.1.2.1, (v, u.2.2.2.2.2.2.2.2.2.1.2.2.2))), u.2.2.2.2.2.2.2.2.2.2))))))))))
def mB_worksBegin (u : MS) : (Nat → Int32) := u.2.2.2.2.2.2.2.2.2.1.2.2.2.1
def mB_worksBegin_set (u : MS) (v : (Nat → Int32)) : MS := (u.1, (u.2.1, (u.2.2.1, (u.2.2.2.1, (u.2.2.2.2.1, (u.2.2.2.2.2.1, (u.2.2.2.2.2.2.1, (u.2.2.2.2.2.2.2.1, (u.2.2.2.2.2.2.2.2.1, ((u.2.2.2.2.2.2.2.2.2.1.1, (u.2.2.2.2.2.2.2.2.2.1.2.1, (u.2.2.2.2.2.2.2.2.2.1.2.2.1, (v, u.2.2.2.2.2.2.2.2.2.1.2.2.2.2)))), u.2.2.2.2.2.2.2.2.2.2))))))))))
def mB_worksEnd (u : MS) : (Nat → Int32) := u.2.2.2.2.2.2.2.2.2.1.2.2.2.2.1
def mB_worksEnd_set (u : MS) (v : (Nat → Int32)) : MS := (u.1, (u.2.1, (u.2.2.1, (u.2.2.2.1, (u.2.2.2.2.1, (u.2.2.2.2.2.1, (u.2.2.2.2.2.2.1, (u.2.2.2.2.2.2.2.1, (u.2.2.2.2.2.2.2.2.1, ((u.2.2.2.2.2.2.2.2.2.1.1, (u.2.2.2.2.2.2.2.2.2.1.2.1, (u.2.2.2.2.2.2.2.2.2.1.2.2.1, (u.2.2.2.2.2.2.2.2.2.1.2.2.2.1, (v, u.2.2.2.2.2.2.2.2.2.1.2.2.2.2.2))))), u.2.2.2.2.2.2.2.2.2.2))))))))))
def mB_works (u : MS) : Int32 := u.2.2.2.2.2.2.2.2.2.1.2.2.2.2.2
def mB_works_set (u : MS) (v : Int32) : MS := (u.1, (u.2.1, (u.2.2.1, (u.2.2.2.1, (u.2.2.2.2.1, (u.2.2.2.2.2.1, (u.2.2.2.2.2.2.1, (u.2.2.2.2.2.2.2.1, (u.2.2.2.2.2.2.2.2.1, ((u.2.2.2.2.2.2.2.2.2.1.1, (u.2.2.2.2.2.2.2.2.2.1.2.1, (u.2.2.2.2.2.2.2.2.2.1.2.2.1, (u.2.2.2.2.2.2.2.2.2.1.2.2.2.1, (u.2.2.2.2.2.2.2.2.2.1.2.2.2.2.1, v))))), u.2.2.2.2.2.2.2.2.2.2))))))))))
def qmK (u : MS) : mK_t := u.2.2.2.2.2.2.2.2.2.2
def qmK_put (u : MS) (v : mK_t) : MS := (u.1, (u.2.1, (u.2.2.1, (u.2.2.2.1, (u.2.2.2.2.1, (u.2.2.2.2.2.1, (u.2.2.2.2.2.2.1, (u.2.2.2.2.2.2.2.1, (u.2.2.2.2.2.2.2.2.1, (u.2.2.2.2.2.2.2.2.2.1, v))))))))))
def mK_proofs (u : MS) : (Nat → Int32) := u.2.2.2.2.2.2.2.2.2.2
def mK_proofs_set (u : MS) (v : (Nat → Int32)) : MS := (u.1, (u.2.1, (u.2.2.1, (u.2.2.2.1, (u.2.2.2.2.1, (u.2.2.2.2.2.1, (u.2.2.2.2.2.2.1, (u.2.2.2.2.2.2.2.1, (u.2.2.2.2.2.2.2.2.1, (u.2.2.2.2.2.2.2.2.2.1, v))))))))))
def wM (cI cZ : ClassId) (ad : Nat → Nat) (u : MS) : va_W := [(ad 0, .inr (10, [.int (m_thrown u), .int (m_now u), .int (mT_demand u), .int (mT_came u), .int (mT_waiting u), .int (mT_gone u), .ref (ad 1), .ref (ad 2), .ref (ad 3), .ref (ad 4), .ref (ad 5), .ref (ad 6), .ref (ad 7), .ref (ad 8), .ref (ad 9), .ref (ad 10), .ref (ad 11), .ref (ad 12), .int (mS_weather u), .int (mI_incidents u), .ref (ad 13), .ref (ad 14), .ref (ad 15), .ref (ad 16), .ref (ad 17), .int (mB_works u), .ref (ad 18), .ref (ad 19), .ref (ad 20), .ref (ad 21), .ref (ad 22), .ref (ad 23)])), (ad 1, .inl (cI, 48, .inl (mT_holding u))), (ad 2, .inl (cZ, 48, .inl (mT_isStopped u))), (ad 3, .inl (cI, 48, .inl (mL_ordered u))), (ad 4, .inl (cZ, 12, .inl (mT_isBroken u))), (ad 5, .inl (cZ, 12, .inl (mH_isOpen u))), (ad 6, .inl (cI, 12, .inl (mH_looked u))), (ad 7, .inl (cZ, 12, .inl (mH_wasClear u))), (ad 8, .inl (cI, 12, .inl (mD_detects u))), (ad 9, .inl (cI, 12, .inl (mD_stuckAt u))), (ad 10, .inl (cI, 12, .inl (mS_limited u))), (ad 11, .inl (cI, 12, .inl (mS_speedSign u))), (ad 12, .inl (cI, 12, .inl (mS_lowered u))), (ad 13, .inl (cI, 12, .inl (mI_placed u))), (ad 14, .inl (cI, 12, .inl (mI_state u))), (ad 15, .inl (cI, 3, .inl (mP_at u))), (ad 16, .inl (cI, 3, .inl (mP_sentTo u))), (ad 17, .inl (cI, 3, .inl (mP_left u))), (ad 18, .inl (cI, 8, .inl (mB_worksLane u))), (ad 19, .inl (cI, 8, .inl (mB_worksFrom u))), (ad 20, .inl (cI, 8, .inl (mB_worksTo u))), (ad 21, .inl (cI, 8, .inl (mB_worksBegin u))), (ad 22, .inl (cI, 8, .inl (mB_worksEnd u))), (ad 23, .inl (cI, 3600, .inl (mK_proofs u)))]
def g_X9_isWithin (p0 : Int32) (p1 : Int32) (p2 : Int32) : Option (Int32) :=
    if p0 < p1 then
    some (0 : Int32)
    else
    if p2 < p0 then
    some (0 : Int32)
    else
    some (1 : Int32)

def g_X0_isRunning (u : GS) (p0 : Int32) (p1 : Int32) : Option (Int32) :=
    g_bind (g_X9_isWithin p0 (0 : Int32) (7 : Int32)) (fun (y1 : Int32) =>
    if y1 = 0 then
    some (0 : Int32)
    else
    g_in p0 8 (
    if p1 < (cB_begins u p0.toNatClampNeg) then
    some (0 : Int32)
    else
    g_in p0 8 (
    if (cB_ends u p0.toNatClampNeg) ≤ p1 then
    some (0 : Int32)
    else
    some (1 : Int32))))

def g_X0_writeNext (u : GS) (p0 : Int32) (p1 : Int32) (p2 : Int32) (p3 : Int32) (p4 : Int32) : Option (GS) :=
    g_bind (g_X9_isWithin (cB_count u) (0 : Int32) (7 : Int32)) (fun (y1 : Int32) =>
    if y1 = 0 then
    some u
    else
    g_in (cB_count u) 8 (
    g_let (cB_lanes_set u (upd (cB_lanes u) (cB_count u).toNatClampNeg p0)) (fun (u5 : GS) =>
    g_in (cB_count u5) 8 (
    g_let (cB_froms_set u5 (upd (cB_froms u5) (cB_count u5).toNatClampNeg p1)) (fun (u7 : GS) =>
    g_in (cB_count u7) 8 (
    g_let (cB_tos_set u7 (upd (cB_tos u7) (cB_count u7).toNatClampNeg p2)) (fun (u9 : GS) =>
    g_in (cB_count u9) 8 (
    g_let (cB_begins_set u9 (upd (cB_begins u9) (cB_count u9).toNatClampNeg p3)) (fun (u11 : GS) =>
    g_in (cB_count u11) 8 (
    g_let (cB_ends_set u11 (upd (cB_ends u11) (cB_count u11).toNatClampNeg p4)) (fun (u13 : GS) =>
    some u13)))))))))))

def g_X0_areInThreeLanes (u : GS) (p0 : Int32) (p1 : Int32) (p2 : Int32) : Option (Int32) :=
    g_in p0 8 (
    g_in p1 8 (
    if (cB_lanes u p0.toNatClampNeg) = (cB_lanes u p1.toNatClampNeg) then
    some (0 : Int32)
    else
    g_in p0 8 (
    g_in p2 8 (
    if (cB_lanes u p0.toNatClampNeg) = (cB_lanes u p2.toNatClampNeg) then
    some (0 : Int32)
    else
    g_in p1 8 (
    g_in p2 8 (
    if (cB_lanes u p1.toNatClampNeg) = (cB_lanes u p2.toNatClampNeg) then
    some (0 : Int32)
    else
    some (1 : Int32)))))))

def g_X0_doMeet (u : GS) (p0 : Int32) (p1 : Int32) (p2 : Int32) : Option (Int32) :=
    g_in p0 8 (
    g_in p1 8 (
    g_in p2 8 (
    g_let (if (cB_froms u p0.toNatClampNeg) < (if (cB_froms u p1.toNatClampNeg) < (cB_froms u p2.toNatClampNeg) then (cB_froms u p2.toNatClampNeg) else (cB_froms u p1.toNatClampNeg)) then (if (cB_froms u p1.toNatClampNeg) < (cB_froms u p2.toNatClampNeg) then (cB_froms u p2.toNatClampNeg) else (cB_froms u p1.toNatClampNeg)) else (cB_froms u p0.toNatClampNeg)) (fun (v4 : Int32) =>
    g_in p0 8 (
    g_in p1 8 (
    g_in p2 8 (
    g_let (if (if (cB_tos u p2.toNatClampNeg) < (cB_tos u p1.toNatClampNeg) then (cB_tos u p2.toNatClampNeg) else (cB_tos u p1.toNatClampNeg)) < (cB_tos u p0.toNatClampNeg) then (if (cB_tos u p2.toNatClampNeg) < (cB_tos u p1.toNatClampNeg) then (cB_tos u p2.toNatClampNeg) else (cB_tos u p1.toNatClampNeg)) else (cB_tos u p0.toNatClampNeg)) (fun (v8 : Int32) =>
    g_in p0 8 (
    g_in p1 8 (
    g_in p2 8 (
    g_let (if (cB_begins u p0.toNatClampNeg) < (if (cB_begins u p1.toNatClampNeg) < (cB_begins u p2.toNatClampNeg) then (cB_begins u p2.toNatClampNeg) else (cB_begins u p1.toNatClampNeg)) then (if (cB_begins u p1.toNatClampNeg) < (cB_begins u p2.toNatClampNeg) then (cB_begins u p2.toNatClampNeg) else (cB_begins u p1.toNatClampNeg)) else (cB_begins u p0.toNatClampNeg)) (fun (v12 : Int32) =>
    g_in p0 8 (
    g_in p1 8 (
    g_in p2 8 (
    g_let (if (if (cB_ends u p2.toNatClampNeg) < (cB_ends u p1.toNatClampNeg) then (cB_ends u p2.toNatClampNeg) else (cB_ends u p1.toNatClampNeg)) < (cB_ends u p0.toNatClampNeg) then (if (cB_ends u p2.toNatClampNeg) < (cB_ends u p1.toNatClampNeg) then (cB_ends u p2.toNatClampNeg) else (cB_ends u p1.toNatClampNeg)) else (cB_ends u p0.toNatClampNeg)) (fun (v16 : Int32) =>
    if v8 < v4 then
    some (0 : Int32)
    else
    if v16 ≤ v12 then
    some (0 : Int32)
    else
    some (1 : Int32)))))))))))))))))

def lp_X0_nextTakesLastLane_27 (u : GS) (x1_17 : Int32) (k : Unit → Option (Int32)) : Nat → Int32 → Option (Int32)
  | 0, _ => none
  | n + 1, x2_27 =>
    if x1_17 ≤ x2_27 then
    k ()
    else
    g_bind (g_X0_areInThreeLanes u x1_17 x2_27 (cB_count u)) (fun (y6 : Int32) =>
    g_let (fun (_ : Unit) => g_let (x2_27 + 1) (fun (v9 : Int32) =>
    lp_X0_nextTakesLastLane_27 u x1_17 k n v9)) (fun (j60_8 : Unit → Option (Int32)) =>
    if y6 = 0 then
    j60_8 ()
    else
    g_bind (g_X0_doMeet u x1_17 x2_27 (cB_count u)) (fun (y11 : Int32) =>
    if y11 = 0 then
    j60_8 ()
    else
    some (1 : Int32))))
def lp_X0_nextTakesLastLane_17 (u : GS) (k : Unit → Option (Int32)) : Nat → Int32 → Option (Int32)
  | 0, _ => none
  | n + 1, x1_17 =>
    if (cB_count u) ≤ x1_17 then
    k ()
    else
    lp_X0_nextTakesLastLane_27 u x1_17 (fun (_ : Unit) => g_let (x1_17 + 1) (fun (v14 : Int32) =>
    lp_X0_nextTakesLastLane_17 u k n v14)) FU (0 : Int32)
def g_X0_nextTakesLastLane (u : GS) : Option (Int32) :=
    g_bind (g_X9_isWithin (cB_count u) (0 : Int32) (7 : Int32)) (fun (y1 : Int32) =>
    if y1 = 0 then
    some (0 : Int32)
    else
    lp_X0_nextTakesLastLane_17 u (fun (_ : Unit) => some (0 : Int32)) FU (0 : Int32))

def g_X9_placeOf (p0 : Int32) (p1 : Int32) : Option (Int32) :=
    some ((p0 * (4 : Int32)) + p1)

def lp_X0_tellCrossesOf_2 (p0 : Int32) (k : GS → Option (GS)) : Nat → Int32 → GS → Option (GS)
  | 0, _, _ => none
  | n + 1, x3_2, w2 =>
    if (12 : Int32) ≤ x3_2 then
    k w2
    else
    g_in p0 8 (
    g_bind (g_X9_placeOf x3_2 (cB_lanes w2 p0.toNatClampNeg)) (fun (y3 : Int32) =>
    g_in p0 8 (
    g_in p0 8 (
    g_bind (g_X9_isWithin x3_2 (cB_froms w2 p0.toNatClampNeg) (cB_tos w2 p0.toNatClampNeg)) (fun (y7 : Int32) =>
    g_let (fun (w55 : GS) => g_let (x3_2 + 1) (fun (v10 : Int32) =>
    lp_X0_tellCrossesOf_2 p0 k n v10 w55)) (fun (j55_9 : GS → Option (GS)) =>
    if y7 = 0 then
    j55_9 w2
    else
    g_bind (g_X9_isWithin y3 (0 : Int32) (47 : Int32)) (fun (y12 : Int32) =>
    if y12 = 0 then
    j55_9 w2
    else
    g_in y3 48 (
    g_let (cL_told_set w2 (upd (cL_told w2) y3.toNatClampNeg (2 : Int32))) (fun (u16 : GS) =>
    j55_9 u16)))))))))
def g_X0_tellCrossesOf (u : GS) (p0 : Int32) : Option (GS) :=
    lp_X0_tellCrossesOf_2 p0 (fun (w2 : GS)  => some w2) FU (0 : Int32) u

def lp_X0_tellCrosses_2 (p0 : Int32) (k : GS → Option (GS)) : Nat → Int32 → GS → Option (GS)
  | 0, _, _ => none
  | n + 1, x3_2, w2 =>
    if (8 : Int32) ≤ x3_2 then
    k w2
    else
    g_let (fun (w31 : GS) => g_let (x3_2 + 1) (fun (v3 : Int32) =>
    lp_X0_tellCrosses_2 p0 k n v3 w31)) (fun (j31_2 : GS → Option (GS)) =>
    if (cB_count w2) ≤ x3_2 then
    j31_2 w2
    else
    g_bind (g_X0_isRunning w2 x3_2 p0) (fun (y5 : Int32) =>
    if y5 = 0 then
    j31_2 w2
    else
    g_bind (g_X0_tellCrossesOf w2 x3_2) (fun (y8 : GS) =>
    j31_2 y8)))
def g_X0_tellCrosses (u : GS) (p0 : Int32) : Option (GS) :=
    lp_X0_tellCrosses_2 p0 (fun (w2 : GS)  => some w2) FU (0 : Int32) u

def lp_X8_mostIn_16 (u : GS) (p0 : Int32) (k : Int32 → Option (Int32)) : Nat → Int32 → Int32 → Option (Int32)
  | 0, _, _ => none
  | n + 1, x2_16, x3_16 =>
    if (4 : Int32) ≤ x3_16 then
    k x2_16
    else
    g_in ((p0 * (4 : Int32)) + x3_16) 48 (
    g_let (cT_held u ((p0 * (4 : Int32)) + x3_16).toNatClampNeg) (fun (v5 : Int32) =>
    g_let (fun (z0_45 : Int32) => g_let (x3_16 + 1) (fun (v7 : Int32) =>
    lp_X8_mostIn_16 u p0 k n z0_45 v7)) (fun (j45_6 : Int32 → Option (Int32)) =>
    if v5 ≤ x2_16 then
    j45_6 x2_16
    else
    j45_6 v5)))
def g_X8_mostIn (u : GS) (p0 : Int32) : Option (Int32) :=
    if p0 < 0 then
    some (0 : Int32)
    else
    if p0 < (12 : Int32) then
    lp_X8_mostIn_16 u p0 (fun (x2_16 : Int32)  => some x2_16) FU (0 : Int32) (0 : Int32)
    else
    some (0 : Int32)

def g_X8_speedAt (u : GS) (p0 : Int32) : Option (Int32) :=
    g_bind (g_X8_mostIn u p0) (fun (y1 : Int32) =>
    some ((120 : Int32) - ((5 : Int32) * y1)))

def lp_X1_guessAt_8 (u : GS) (p0 : Int32) (k : Int32 → Int32 → Option (Int32)) : Nat → Int32 → Int32 → Int32 → Option (Int32)
  | 0, _, _, _ => none
  | n + 1, x3_8, x4_8, x5_8 =>
    if (12 : Int32) ≤ x5_8 then
    k x3_8 x4_8
    else
    g_let (fun (x3_53 : Int32) (x4_53 : Int32) => g_let (x5_8 + 1) (fun (v3 : Int32) =>
    lp_X1_guessAt_8 u p0 k n x3_53 x4_53 v3)) (fun (j53_2 : Int32 → Int32 → Option (Int32)) =>
    g_let (fun (_ : Unit) => g_in x5_8 12 (
    if (cD_is u x5_8.toNatClampNeg) = 0 then
    g_bind (g_X8_speedAt u x5_8) (fun (y7 : Int32) =>
    g_let (x3_8 + y7) (fun (v9 : Int32) =>
    g_let (x4_8 + 1) (fun (v10 : Int32) =>
    j53_2 v9 v10)))
    else
    j53_2 x3_8 x4_8)) (fun (j31_4 : Unit → Option (Int32)) =>
    if x5_8 = (p0 - (1 : Int32)) then
    j31_4 ()
    else
    if x5_8 = (p0 + (1 : Int32)) then
    j31_4 ()
    else
    j53_2 x3_8 x4_8))
def g_X1_guessAt (u : GS) (p0 : Int32) : Option (Int32) :=
    lp_X1_guessAt_8 u p0 (fun (x3_8 : Int32) (x4_8 : Int32)  => if x4_8 = 0 then
    some (-1 : Int32)
    else
    g_nz x4_8 (
    some (x3_8 / x4_8))) FU (0 : Int32) (0 : Int32) (0 : Int32)

def g_X1_beliefAt (u : GS) (p0 : Int32) : Option (Int32) :=
    g_bind (g_X9_isWithin p0 (0 : Int32) (11 : Int32)) (fun (y1 : Int32) =>
    if y1 = 0 then
    some (-1 : Int32)
    else
    g_in p0 12 (
    if (cD_is u p0.toNatClampNeg) = 0 then
    g_bind (g_X8_speedAt u p0) (fun (y14 : Int32) =>
    some y14)
    else
    g_bind (g_X1_guessAt u p0) (fun (y6 : Int32) =>
    g_in p0 12 (
    if (cD_is u p0.toNatClampNeg) = (2 : Int32) then
    some y6
    else
    g_in p0 12 (
    g_let (cD_stuckAt u p0.toNatClampNeg) (fun (v11 : Int32) =>
    if y6 = (-1 : Int32) then
    some v11
    else
    if (if 0 ≤ (y6 - v11) then (y6 - v11) else 0 - (y6 - v11)) ≤ (30 : Int32) then
    some v11
    else
    some y6))))))

def g_X2_has (u : GS) (p0 : Int32) : Option (Int32) :=
    g_bind (g_X9_isWithin p0 (0 : Int32) (11 : Int32)) (fun (y1 : Int32) =>
    if y1 = 0 then
    some (0 : Int32)
    else
    if (cI_count u) ≤ p0 then
    some (0 : Int32)
    else
    some (1 : Int32))

def g_X2_sectionOf (u : GS) (p0 : Int32) : Option (Int32) :=
    g_bind (g_X2_has u p0) (fun (y1 : Int32) =>
    if y1 = 0 then
    some (0 : Int32)
    else
    g_in p0 12 (
    some ((cI_places u p0.toNatClampNeg) / (4 : Int32))))

def lp_X2_canAdd_2 (u : GS) (p0 : Int32) (k : Unit → Option (Int32)) : Nat → Int32 → Option (Int32)
  | 0, _ => none
  | n + 1, x2_2 =>
    if (12 : Int32) ≤ x2_2 then
    k ()
    else
    g_let (fun (_ : Unit) => g_let (x2_2 + 1) (fun (v3 : Int32) =>
    lp_X2_canAdd_2 u p0 k n v3)) (fun (j38_2 : Unit → Option (Int32)) =>
    if (cI_count u) ≤ x2_2 then
    j38_2 ()
    else
    g_in x2_2 12 (
    if (cI_places u x2_2.toNatClampNeg) = p0 then
    g_in x2_2 12 (
    if (cI_how u x2_2.toNatClampNeg) = (2 : Int32) then
    j38_2 ()
    else
    some (0 : Int32))
    else
    j38_2 ()))
def g_X2_canAdd (u : GS) (p0 : Int32) : Option (Int32) :=
    lp_X2_canAdd_2 u p0 (fun (_ : Unit) => if (12 : Int32) ≤ (cI_count u) then
    some (0 : Int32)
    else
    some (1 : Int32)) FU (0 : Int32)

def g_X2_add (u : GS) (p0 : Int32) : Option (Int32 × GS) :=
    g_bind (g_X9_isWithin (cI_count u) (0 : Int32) (11 : Int32)) (fun (y1 : Int32) =>
    if y1 = 0 then
    some ((-1 : Int32), u)
    else
    g_in (cI_count u) 12 (
    g_let (cI_places_set u (upd (cI_places u) (cI_count u).toNatClampNeg p0)) (fun (u5 : GS) =>
    g_in (cI_count u5) 12 (
    g_let (cI_how_set u5 (upd (cI_how u5) (cI_count u5).toNatClampNeg (0 : Int32))) (fun (u7 : GS) =>
    g_in (cI_count u7) 12 (
    g_let (cI_patrols_set u7 (upd (cI_patrols u7) (cI_count u7).toNatClampNeg (-1 : Int32))) (fun (u9 : GS) =>
    g_let (cI_count_set u9 ((cI_count u9) + (1 : Int32))) (fun (u10 : GS) =>
    some (((cI_count u10) - (1 : Int32)), u10)))))))))

def lp_X2_tellCrosses_2 (k : GS → Option (GS)) : Nat → Int32 → GS → Option (GS)
  | 0, _, _ => none
  | n + 1, x2_2, w2 =>
    if (12 : Int32) ≤ x2_2 then
    k w2
    else
    g_let (fun (w50 : GS) => g_let (x2_2 + 1) (fun (v3 : Int32) =>
    lp_X2_tellCrosses_2 k n v3 w50)) (fun (j50_2 : GS → Option (GS)) =>
    if (cI_count w2) ≤ x2_2 then
    j50_2 w2
    else
    g_in x2_2 12 (
    if (cI_how w2 x2_2.toNatClampNeg) = (1 : Int32) then
    g_in x2_2 12 (
    g_bind (g_X9_isWithin (cI_places w2 x2_2.toNatClampNeg) (0 : Int32) (47 : Int32)) (fun (y8 : Int32) =>
    if y8 = 0 then
    j50_2 w2
    else
    g_in x2_2 12 (
    g_in (cI_places w2 x2_2.toNatClampNeg) 48 (
    g_let (cL_told_set w2 (upd (cL_told w2) (cI_places w2 x2_2.toNatClampNeg).toNatClampNeg (2 : Int32))) (fun (u13 : GS) =>
    j50_2 u13)))))
    else
    j50_2 w2))
def g_X2_tellCrosses (u : GS) : Option (GS) :=
    lp_X2_tellCrosses_2 (fun (w2 : GS)  => some w2) FU (0 : Int32) u

def lp_X6_tellCrosses_2 (k : GS → Option (GS)) : Nat → Int32 → GS → Option (GS)
  | 0, _, _ => none
  | n + 1, x2_2, w2 =>
    if (12 : Int32) ≤ x2_2 then
    k w2
    else
    g_in x2_2 12 (
    g_let (fun (w25 : GS) => g_let (x2_2 + 1) (fun (v4 : Int32) =>
    lp_X6_tellCrosses_2 k n v4 w25)) (fun (j25_3 : GS → Option (GS)) =>
    if (cH_open w2 x2_2.toNatClampNeg) = 0 then
    g_bind (g_X9_placeOf x2_2 (0 : Int32)) (fun (y6 : Int32) =>
    g_in y6 48 (
    g_let (cL_told_set w2 (upd (cL_told w2) y6.toNatClampNeg (2 : Int32))) (fun (u9 : GS) =>
    j25_3 u9)))
    else
    j25_3 w2))
def g_X6_tellCrosses (u : GS) : Option (GS) :=
    lp_X6_tellCrosses_2 (fun (w2 : GS)  => some w2) FU (0 : Int32) u

def g_X3_isAheadOfCross_t (u : GS) (p0 : Int32) : Option (Int32) :=
    g_let (p0 + (4 : Int32)) (fun (v1 : Int32) =>
    g_bind (g_X9_isWithin v1 (0 : Int32) (47 : Int32)) (fun (y2 : Int32) =>
    if y2 = 0 then
    some (0 : Int32)
    else
    g_in v1 48 (
    if (cL_told u v1.toNatClampNeg) = (2 : Int32) then
    some (1 : Int32)
    else
    some (0 : Int32))))

def lp_X3_setAnew_3 (k : GS → Option (GS)) : Nat → Int32 → GS → Option (GS)
  | 0, _, _ => none
  | n + 1, x5_3, w3 =>
    if (48 : Int32) ≤ x5_3 then
    k w3
    else
    g_in x5_3 48 (
    g_let (cL_told_set w3 (upd (cL_told w3) x5_3.toNatClampNeg (0 : Int32))) (fun (u3 : GS) =>
    g_let (x5_3 + 1) (fun (v4 : Int32) =>
    lp_X3_setAnew_3 k n v4 u3)))
def lp_X3_setAnew_53 (k : GS → Option (GS)) : Nat → Int32 → GS → Option (GS)
  | 0, _, _ => none
  | n + 1, x5_53, w53 =>
    if (48 : Int32) ≤ x5_53 then
    k w53
    else
    g_in x5_53 48 (
    g_let (fun (w85 : GS) => g_let (x5_53 + 1) (fun (v14 : Int32) =>
    lp_X3_setAnew_53 k n v14 w85)) (fun (j85_13 : GS → Option (GS)) =>
    if (cL_orders w53 x5_53.toNatClampNeg) = (-1 : Int32) then
    j85_13 w53
    else
    g_in x5_53 48 (
    g_in x5_53 48 (
    g_let (cL_told_set w53 (upd (cL_told w53) x5_53.toNatClampNeg (cL_orders w53 x5_53.toNatClampNeg))) (fun (u18 : GS) =>
    j85_13 u18)))))
def lp_X3_setAnew_94 (k : GS → Option (GS)) : Nat → Int32 → GS → Option (GS)
  | 0, _, _ => none
  | n + 1, x5_94, w94 =>
    if (48 : Int32) ≤ x5_94 then
    k w94
    else
    g_in x5_94 48 (
    g_let (fun (z0_140 : Int32) => g_in x5_94 48 (
    g_let (cL_shown_set w94 (upd (cL_shown w94) x5_94.toNatClampNeg z0_140)) (fun (u23 : GS) =>
    g_let (x5_94 + 1) (fun (v24 : Int32) =>
    lp_X3_setAnew_94 k n v24 u23)))) (fun (j140_21 : Int32 → Option (GS)) =>
    g_let (fun (_ : Unit) => g_in x5_94 48 (
    j140_21 (cL_told w94 x5_94.toNatClampNeg))) (fun (j133_25 : Unit → Option (GS)) =>
    if (cL_told w94 x5_94.toNatClampNeg) = 0 then
    g_bind (g_X3_isAheadOfCross_t w94 x5_94) (fun (y28 : Int32) =>
    if y28 = 0 then
    j133_25 ()
    else
    j140_21 (1 : Int32))
    else
    j133_25 ())))
def g_X3_setAnew (u : GS) (p0 : Int32) : Option (GS) :=
    lp_X3_setAnew_3 (fun (w3 : GS)  => g_bind (g_X6_tellCrosses w3) (fun (y5 : GS) =>
    g_bind (g_X2_tellCrosses y5) (fun (y7 : GS) =>
    g_bind (g_X0_tellCrosses y7 p0) (fun (y9 : GS) =>
    lp_X3_setAnew_53 (fun (w53 : GS)  => lp_X3_setAnew_94 (fun (w94 : GS)  => some w94) FU (0 : Int32) w53) FU (0 : Int32) y9)))) FU (0 : Int32) u

def g_X3_isAheadOfCross_s (u : GS) (p0 : Int32) : Option (Int32) :=
    g_let (p0 + (4 : Int32)) (fun (v1 : Int32) =>
    g_bind (g_X9_isWithin v1 (0 : Int32) (47 : Int32)) (fun (y2 : Int32) =>
    if y2 = 0 then
    some (0 : Int32)
    else
    g_in v1 48 (
    if (cL_shown u v1.toNatClampNeg) = (2 : Int32) then
    some (1 : Int32)
    else
    some (0 : Int32))))

def lp_X3_areLawful_2 (u : GS) (k : Unit → Option (Int32)) : Nat → Int32 → Option (Int32)
  | 0, _ => none
  | n + 1, x1_2 =>
    if (48 : Int32) ≤ x1_2 then
    k ()
    else
    g_in x1_2 48 (
    g_let (fun (_ : Unit) => g_let (x1_2 + 1) (fun (v4 : Int32) =>
    lp_X3_areLawful_2 u k n v4)) (fun (j30_3 : Unit → Option (Int32)) =>
    if (cL_shown u x1_2.toNatClampNeg) = 0 then
    g_bind (g_X3_isAheadOfCross_s u x1_2) (fun (y6 : Int32) =>
    if y6 = 0 then
    j30_3 ()
    else
    some (0 : Int32))
    else
    j30_3 ()))
def g_X3_areLawful (u : GS) : Option (Int32) :=
    lp_X3_areLawful_2 u (fun (_ : Unit) => some (1 : Int32)) FU (0 : Int32)

def g_X5_isKept (p0 : Int32) (p1 : Int32) : Option (Int32) :=
    g_bind (g_X9_isWithin p0 ((p1 - (60 : Int32)) + (1 : Int32)) p1) (fun (y1 : Int32) =>
    g_bo y1 (some y1))

def g_J9_floorMod_7cf53 (p0 : Int32) (p1 : Int32) : Option (Int32) :=
    g_nz p1 (
    g_let (p0 - p0 / p1 * p1) (fun (v2 : Int32) =>
    if 0 ≤ (p0 ^^^ p1) then
    some v2
    else
    if v2 = 0 then
    some v2
    else
    some (v2 + p1)))

def g_X5_slotOf (p0 : Int32) (p1 : Int32) : Option (Int32) :=
    g_bind (g_J9_floorMod_7cf53 p0 (60 : Int32)) (fun (y1 : Int32) =>
    some ((y1 * (12 : Int32)) + p1))

def lp_X5_keep_19 (x4_3 : Int32) (w3 : GS) (k : Int32 → Option (GS)) : Nat → Int32 → Int32 → Option (GS)
  | 0, _, _ => none
  | n + 1, x5_19, x6_19 =>
    if x6_19 < 0 then
    k x5_19
    else
    g_bind (g_X9_placeOf x4_3 x6_19) (fun (y5 : Int32) =>
    g_in y5 48 (
    g_let ((x5_19 * (4 : Int32)) + (cL_shown w3 y5.toNatClampNeg)) (fun (v8 : Int32) =>
    g_let (x6_19 + (-1)) (fun (v9 : Int32) =>
    lp_X5_keep_19 x4_3 w3 k n v8 v9))))
def lp_X5_keep_3 (p0 : Int32) (k : GS → Option (GS)) : Nat → Int32 → GS → Option (GS)
  | 0, _, _ => none
  | n + 1, x4_3, w3 =>
    if (12 : Int32) ≤ x4_3 then
    k w3
    else
    g_in x4_3 12 (
    g_let (cS_shown w3 x4_3.toNatClampNeg) (fun (v3 : Int32) =>
    lp_X5_keep_19 x4_3 w3 (fun (x5_19 : Int32)  => g_bind (g_X5_slotOf p0 x4_3) (fun (y10 : Int32) =>
    g_in y10 720 (
    g_let (cK_kept_set w3 (upd (cK_kept w3) y10.toNatClampNeg x5_19)) (fun (u13 : GS) =>
    g_let (x4_3 + 1) (fun (v14 : Int32) =>
    lp_X5_keep_3 p0 k n v14 u13))))) FU v3 (3 : Int32)))
def g_X5_keep (u : GS) (p0 : Int32) : Option (GS) :=
    lp_X5_keep_3 p0 (fun (w3 : GS)  => some w3) FU (0 : Int32) u

def g_X5_speedSign (u : GS) (p0 : Int32) (p1 : Int32) : Option (Int32) :=
    g_bind (g_X5_slotOf p0 p1) (fun (y1 : Int32) =>
    g_in y1 720 (
    some ((cK_kept u y1.toNatClampNeg) >>> ((8 : Int32) &&& 31))))

def g_X5_laneSign (u : GS) (p0 : Int32) (p1 : Int32) (p2 : Int32) : Option (Int32) :=
    g_bind (g_X5_slotOf p0 p1) (fun (y1 : Int32) =>
    g_in y1 720 (
    some (((cK_kept u y1.toNatClampNeg) >>> (((2 : Int32) * p2) &&& 31)) &&& (3 : Int32))))

def g_X6_isOpenAt (u : GS) (p0 : Int32) : Option (Int32) :=
    g_bind (g_X9_isWithin p0 (0 : Int32) (11 : Int32)) (fun (y1 : Int32) =>
    if y1 = 0 then
    some (0 : Int32)
    else
    g_in p0 12 (
    if (cH_open u p0.toNatClampNeg) = 0 then
    some (0 : Int32)
    else
    some (1 : Int32)))

def lp_X6_canOpen_3 (u : GS) (p0 : Int32) (p1 : Int32) (p2 : Int32) (k : Unit → Option (Int32)) : Nat → Int32 → Option (Int32)
  | 0, _ => none
  | n + 1, x4_3 =>
    if (12 : Int32) ≤ x4_3 then
    k ()
    else
    g_bind (g_X9_isWithin x4_3 p0 p1) (fun (y2 : Int32) =>
    g_let (fun (_ : Unit) => g_let (x4_3 + 1) (fun (v5 : Int32) =>
    lp_X6_canOpen_3 u p0 p1 p2 k n v5)) (fun (j35_4 : Unit → Option (Int32)) =>
    if y2 = 0 then
    j35_4 ()
    else
    g_in x4_3 12 (
    if (p2 - (cH_foundClearAt u x4_3.toNatClampNeg)) < (5 : Int32) then
    j35_4 ()
    else
    some (0 : Int32))))
def g_X6_canOpen (u : GS) (p0 : Int32) (p1 : Int32) (p2 : Int32) : Option (Int32) :=
    lp_X6_canOpen_3 u p0 p1 p2 (fun (_ : Unit) => some (1 : Int32)) FU (0 : Int32)

def lp_X6_openAll_5 (p0 : Int32) (p1 : Int32) (k : Int32 → GS → Option (Int32 × GS)) : Nat → Int32 → Int32 → GS → Option (Int32 × GS)
  | 0, _, _, _ => none
  | n + 1, x3_5, x4_5, w5 =>
    if (12 : Int32) ≤ x4_5 then
    k x3_5 w5
    else
    g_bind (g_X9_isWithin x4_5 p0 p1) (fun (y2 : Int32) =>
    g_let (fun (x3_43 : Int32) (w43 : GS) => g_let (x4_5 + 1) (fun (v5 : Int32) =>
    lp_X6_openAll_5 p0 p1 k n x3_43 v5 w43)) (fun (j43_4 : Int32 → GS → Option (Int32 × GS)) =>
    if y2 = 0 then
    j43_4 x3_5 w5
    else
    g_in x4_5 12 (
    if (cH_open w5 x4_5.toNatClampNeg) = 0 then
    g_in x4_5 12 (
    g_let (cH_open_set w5 (upd (cH_open w5) x4_5.toNatClampNeg (vp_nar .boolean (1 : Int32)))) (fun (u10 : GS) =>
    g_let (x3_5 + 1) (fun (v11 : Int32) =>
    j43_4 v11 u10)))
    else
    j43_4 x3_5 w5)))
def g_X6_openAll (u : GS) (p0 : Int32) (p1 : Int32) : Option (Int32 × GS) :=
    lp_X6_openAll_5 p0 p1 (fun (x3_5 : Int32) (w5 : GS)  => some (x3_5, w5)) FU (0 : Int32) (0 : Int32) u

def lp_X6_shutAll_4 (k : Int32 → GS → Option (Int32 × GS)) : Nat → Int32 → Int32 → GS → Option (Int32 × GS)
  | 0, _, _, _ => none
  | n + 1, x1_4, x2_4, w4 =>
    if (12 : Int32) ≤ x2_4 then
    k x1_4 w4
    else
    g_in x2_4 12 (
    g_let (fun (x1_29 : Int32) (w29 : GS) => g_let (x2_4 + 1) (fun (v4 : Int32) =>
    lp_X6_shutAll_4 k n x1_29 v4 w29)) (fun (j29_3 : Int32 → GS → Option (Int32 × GS)) =>
    if (cH_open w4 x2_4.toNatClampNeg) = 0 then
    j29_3 x1_4 w4
    else
    g_in x2_4 12 (
    g_let (cH_open_set w4 (upd (cH_open w4) x2_4.toNatClampNeg (vp_nar .boolean (0 : Int32)))) (fun (u7 : GS) =>
    g_let (x1_4 + 1) (fun (v8 : Int32) =>
    j29_3 v8 u7)))))
def g_X6_shutAll (u : GS) : Option (Int32 × GS) :=
    lp_X6_shutAll_4 (fun (x1_4 : Int32) (w4 : GS)  => some (x1_4, w4)) FU (0 : Int32) (0 : Int32) u

def g_X7_wantBy (p0 : Int32) : Option (Int32) :=
    if p0 = (-1 : Int32) then
    some (60 : Int32)
    else
    if (40 : Int32) ≤ p0 then
    if (60 : Int32) ≤ p0 then
    if (80 : Int32) ≤ p0 then
    some (120 : Int32)
    else
    some (80 : Int32)
    else
    some (60 : Int32)
    else
    some (40 : Int32)

def g_X7_wantAt (u : GS) (p0 : Int32) (p1 : Int32) : Option (Int32) :=
    g_in p0 12 (
    if (cS_limits u p0.toNatClampNeg) = (-1 : Int32) then
    g_bind (g_X9_isWithin (cS_weather u) (0 : Int32) (3 : Int32)) (fun (y3 : Int32) =>
    g_let (fun (z0_42 : Int32) => g_bind (g_X7_wantBy p1) (fun (y6 : Int32) =>
    some (if z0_42 < y6 then z0_42 else y6))) (fun (j42_5 : Int32 → Option (Int32)) =>
    if y3 = 0 then
    j42_5 (120 : Int32)
    else
    g_in (cS_weather u) 4 (
    j42_5 (wlF (cS_weather u).toNatClampNeg))))
    else
    g_in p0 12 (
    some (cS_limits u p0.toNatClampNeg)))

def g_X7_staysBelow (u : GS) (p0 : Int32) (p1 : Int32) (p2 : Int32) : Option (Int32) :=
    g_in p1 12 (
    if (cS_limits u p1.toNatClampNeg) = (-1 : Int32) then
    g_in p1 12 (
    if p0 ≤ (cS_shown u p1.toNatClampNeg) then
    some (0 : Int32)
    else
    g_in p1 12 (
    if (3 : Int32) ≤ (p2 - (cS_loweredAt u p1.toNatClampNeg)) then
    some (0 : Int32)
    else
    some (1 : Int32)))
    else
    some (0 : Int32))

def lp_X7_setAnew_4 (p0 : Int32) (k : GS → Option (GS)) : Nat → Int32 → GS → Option (GS)
  | 0, _, _ => none
  | n + 1, x4_4, w4 =>
    if x4_4 < 0 then
    k w4
    else
    g_bind (g_X1_beliefAt w4 x4_4) (fun (y2 : Int32) =>
    g_bind (g_X7_wantAt w4 x4_4 y2) (fun (y4 : Int32) =>
    g_bind (g_X7_staysBelow w4 y4 x4_4 p0) (fun (y6 : Int32) =>
    g_let (fun (z0_48 : Int32) => g_let (fun (x6_78 : Int32) => g_in x4_4 12 (
    g_let (fun (w98 : GS) => g_in x4_4 12 (
    g_let (cS_shown_set w98 (upd (cS_shown w98) x4_4.toNatClampNeg x6_78)) (fun (u13 : GS) =>
    g_let (x4_4 + (-1)) (fun (v14 : Int32) =>
    lp_X7_setAnew_4 p0 k n v14 u13)))) (fun (j98_11 : GS → Option (GS)) =>
    if (cS_shown w4 x4_4.toNatClampNeg) ≤ x6_78 then
    j98_11 w4
    else
    g_in x4_4 12 (
    g_let (cS_loweredAt_set w4 (upd (cS_loweredAt w4) x4_4.toNatClampNeg p0)) (fun (u17 : GS) =>
    j98_11 u17))))) (fun (j78_9 : Int32 → Option (GS)) =>
    if (12 : Int32) ≤ (x4_4 + (1 : Int32)) then
    j78_9 z0_48
    else
    g_in (x4_4 + (1 : Int32)) 12 (
    g_let (if ((cS_shown w4 (x4_4 + (1 : Int32)).toNatClampNeg) + (20 : Int32)) < z0_48 then ((cS_shown w4 (x4_4 + (1 : Int32)).toNatClampNeg) + (20 : Int32)) else z0_48) (fun (v20 : Int32) =>
    j78_9 v20)))) (fun (j48_8 : Int32 → Option (GS)) =>
    if y6 = 0 then
    j48_8 y4
    else
    g_in x4_4 12 (
    j48_8 (cS_shown w4 x4_4.toNatClampNeg))))))
def g_X7_setAnew (u : GS) (p0 : Int32) : Option (GS) :=
    lp_X7_setAnew_4 p0 (fun (w4 : GS)  => some w4) FU (11 : Int32) u

def lp_X7_areLawful_2 (u : GS) (k : Unit → Option (Int32)) : Nat → Int32 → Option (Int32)
  | 0, _ => none
  | n + 1, x1_2 =>
    if (12 : Int32) ≤ (x1_2 + (1 : Int32)) then
    k ()
    else
    g_in x1_2 12 (
    g_in (x1_2 + (1 : Int32)) 12 (
    if (cS_shown u x1_2.toNatClampNeg) ≤ ((cS_shown u (x1_2 + (1 : Int32)).toNatClampNeg) + (20 : Int32)) then
    g_let (x1_2 + 1) (fun (v5 : Int32) =>
    lp_X7_areLawful_2 u k n v5)
    else
    some (0 : Int32)))
def g_X7_areLawful (u : GS) : Option (Int32) :=
    lp_X7_areLawful_2 u (fun (_ : Unit) => some (1 : Int32)) FU (0 : Int32)

def lp_X8_countOnRoad_4 (u : GS) (k : Int32 → Option (Int32)) : Nat → Int32 → Int32 → Option (Int32)
  | 0, _, _ => none
  | n + 1, x1_4, x2_4 =>
    if (48 : Int32) ≤ x2_4 then
    k x1_4
    else
    g_in x2_4 48 (
    g_let (x1_4 + (cT_held u x2_4.toNatClampNeg)) (fun (v3 : Int32) =>
    g_let (x2_4 + 1) (fun (v4 : Int32) =>
    lp_X8_countOnRoad_4 u k n v3 v4)))
def g_X8_countOnRoad (u : GS) : Option (Int32) :=
    lp_X8_countOnRoad_4 u (fun (x1_4 : Int32)  => some x1_4) FU (0 : Int32) (0 : Int32)

def g_X8_isStoppedAt (u : GS) (p0 : Int32) : Option (Int32) :=
    g_bind (g_X9_isWithin p0 (0 : Int32) (47 : Int32)) (fun (y1 : Int32) =>
    if y1 = 0 then
    some (0 : Int32)
    else
    g_in p0 48 (
    if (cT_stopped u p0.toNatClampNeg) = 0 then
    some (0 : Int32)
    else
    some (1 : Int32)))

def g_X8_heldAt (u : GS) (p0 : Int32) : Option (Int32) :=
    g_bind (g_X9_isWithin p0 (0 : Int32) (47 : Int32)) (fun (y1 : Int32) =>
    if y1 = 0 then
    some (0 : Int32)
    else
    g_in p0 48 (
    some (cT_held u p0.toNatClampNeg)))

def g_X8_isClear (u : GS) (p0 : Int32) : Option (Int32) :=
    g_bind (g_X8_isStoppedAt u p0) (fun (y1 : Int32) =>
    if y1 = 0 then
    g_bind (g_X8_heldAt u p0) (fun (y4 : Int32) =>
    if y4 = 0 then
    some (1 : Int32)
    else
    some (0 : Int32))
    else
    some (0 : Int32))

def g_X8_clearStopped (u : GS) (p0 : Int32) : Option (GS) :=
    g_bind (g_X9_isWithin p0 (0 : Int32) (47 : Int32)) (fun (y1 : Int32) =>
    if y1 = 0 then
    some u
    else
    g_in p0 48 (
    g_let (cT_stopped_set u (upd (cT_stopped u) p0.toNatClampNeg (vp_nar .boolean (0 : Int32)))) (fun (u5 : GS) =>
    some u5)))

def g_X8_mostThatGoOn (u : GS) (p0 : Int32) (p1 : Int32) : Option (Int32) :=
    g_bind (g_X8_isStoppedAt u p1) (fun (y1 : Int32) =>
    if y1 = 0 then
    g_in p0 12 (
    if (cT_broken u p0.toNatClampNeg) = 0 then
    some (8 : Int32)
    else
    some (6 : Int32))
    else
    some (0 : Int32))

def g_X8_letsIn (u : GS) (p0 : Int32) : Option (Int32) :=
    g_bind (g_X9_isWithin p0 (0 : Int32) (47 : Int32)) (fun (y1 : Int32) =>
    if y1 = 0 then
    some (0 : Int32)
    else
    g_in p0 48 (
    if (cL_shown u p0.toNatClampNeg) = (2 : Int32) then
    some (0 : Int32)
    else
    g_in p0 48 (
    if (20 : Int32) ≤ (cT_held u p0.toNatClampNeg) then
    some (0 : Int32)
    else
    some (1 : Int32))))

def lp_X8_placeToGoTo_24 (u : GS) (p0 : Int32) (p1 : Int32) (k : Unit → Option (Int32)) : Nat → Int32 → Option (Int32)
  | 0, _ => none
  | n + 1, x5_24 =>
    if (3 : Int32) ≤ x5_24 then
    k ()
    else
    g_in x5_24 3 (
    g_let (p1 + (tinF x5_24.toNatClampNeg)) (fun (v7 : Int32) =>
    g_bind (g_X9_isWithin v7 (0 : Int32) (3 : Int32)) (fun (y8 : Int32) =>
    if y8 = 0 then
    g_let (x5_24 + 1) (fun (v11 : Int32) =>
    lp_X8_placeToGoTo_24 u p0 p1 k n v11)
    else
    g_bind (g_X9_placeOf (p0 + (1 : Int32)) v7) (fun (y12 : Int32) =>
    g_bind (g_X8_letsIn u y12) (fun (y14 : Int32) =>
    if y14 = 0 then
    g_let (x5_24 + 1) (fun (v17 : Int32) =>
    lp_X8_placeToGoTo_24 u p0 p1 k n v17)
    else
    g_bind (g_X9_placeOf (p0 + (1 : Int32)) v7) (fun (y18 : Int32) =>
    some y18))))))
def lp_X8_placeToGoTo_24_v2 (u : GS) (p0 : Int32) (p1 : Int32) (k : Unit → Option (Int32)) : Nat → Int32 → Option (Int32)
  | 0, _ => none
  | n + 1, x5_24 =>
    if (3 : Int32) ≤ x5_24 then
    k ()
    else
    g_in x5_24 3 (
    g_let (p1 + (tioF x5_24.toNatClampNeg)) (fun (v22 : Int32) =>
    g_bind (g_X9_isWithin v22 (0 : Int32) (3 : Int32)) (fun (y23 : Int32) =>
    if y23 = 0 then
    g_let (x5_24 + 1) (fun (v26 : Int32) =>
    lp_X8_placeToGoTo_24_v2 u p0 p1 k n v26)
    else
    g_bind (g_X9_placeOf (p0 + (1 : Int32)) v22) (fun (y27 : Int32) =>
    g_bind (g_X8_letsIn u y27) (fun (y29 : Int32) =>
    if y29 = 0 then
    g_let (x5_24 + 1) (fun (v32 : Int32) =>
    lp_X8_placeToGoTo_24_v2 u p0 p1 k n v32)
    else
    g_bind (g_X9_placeOf (p0 + (1 : Int32)) v22) (fun (y33 : Int32) =>
    some y33))))))
def g_X8_placeToGoTo (u : GS) (p0 : Int32) (p1 : Int32) : Option (Int32) :=
    g_bind (g_X9_placeOf p0 p1) (fun (y1 : Int32) =>
    g_in y1 48 (
    if (cL_shown u y1.toNatClampNeg) = 0 then
    lp_X8_placeToGoTo_24_v2 u p0 p1 (fun (_ : Unit) => some (-1 : Int32)) FU (0 : Int32)
    else
    lp_X8_placeToGoTo_24 u p0 p1 (fun (_ : Unit) => some (-1 : Int32)) FU (0 : Int32)))

def lp_X8_goOnFrom_28 (p0 : Int32) (p1 : Int32) (y1 : Int32) (v7 : Int32) (k : GS → Option (GS)) : Nat → Int32 → GS → Option (GS)
  | 0, _, _ => none
  | n + 1, x6_28, w28 =>
    if v7 ≤ x6_28 then
    k w28
    else
    g_let (fun (w81 : GS) => g_in y1 48 (
    g_in y1 48 (
    g_let (cT_held_set w81 (upd (cT_held w81) y1.toNatClampNeg ((cT_held w81 y1.toNatClampNeg) - (1 : Int32)))) (fun (u12 : GS) =>
    g_let (x6_28 + 1) (fun (v13 : Int32) =>
    lp_X8_goOnFrom_28 p0 p1 y1 v7 k n v13 u12))))) (fun (j81_9 : GS → Option (GS)) =>
    if p0 = (11 : Int32) then
    g_let (cT_gone_set w28 ((cT_gone w28) + (1 : Int32))) (fun (u21 : GS) =>
    j81_9 u21)
    else
    g_bind (g_X8_placeToGoTo w28 p0 p1) (fun (y15 : Int32) =>
    if y15 = (-1 : Int32) then
    some w28
    else
    g_in y15 48 (
    g_in y15 48 (
    g_let (cT_held_set w28 (upd (cT_held w28) y15.toNatClampNeg ((cT_held w28 y15.toNatClampNeg) + (1 : Int32)))) (fun (u20 : GS) =>
    j81_9 u20)))))
def g_X8_goOnFrom (u : GS) (p0 : Int32) (p1 : Int32) : Option (GS) :=
    g_bind (g_X9_placeOf p0 p1) (fun (y1 : Int32) =>
    g_bind (g_X8_heldAt u y1) (fun (y3 : Int32) =>
    g_bind (g_X8_mostThatGoOn u p0 y1) (fun (y5 : Int32) =>
    g_let (if y5 < y3 then y5 else y3) (fun (v7 : Int32) =>
    lp_X8_goOnFrom_28 p0 p1 y1 v7 (fun (w28 : GS)  => some w28) FU (0 : Int32) u))))

def lp_X8_goOn_9 (x2_3 : Int32) (k : GS → Option (GS)) : Nat → Int32 → GS → Option (GS)
  | 0, _, _ => none
  | n + 1, x3_9, w9 =>
    if (4 : Int32) ≤ x3_9 then
    k w9
    else
    g_bind (g_X8_goOnFrom w9 x2_3 x3_9) (fun (y3 : GS) =>
    g_let (x3_9 + 1) (fun (v5 : Int32) =>
    lp_X8_goOn_9 x2_3 k n v5 y3))
def lp_X8_goOn_3 (k : GS → Option (GS)) : Nat → Int32 → GS → Option (GS)
  | 0, _, _ => none
  | n + 1, x2_3, w3 =>
    if x2_3 < 0 then
    k w3
    else
    lp_X8_goOn_9 x2_3 (fun (w9 : GS)  => g_let (x2_3 + (-1)) (fun (v6 : Int32) =>
    lp_X8_goOn_3 k n v6 w9)) FU (0 : Int32) w3
def g_X8_goOn (u : GS) : Option (GS) :=
    lp_X8_goOn_3 (fun (w3 : GS)  => some w3) FU (11 : Int32) u

def lp_X8_laneToEnter_4 (u : GS) (k : Int32 → Option (Int32)) : Nat → Int32 → Int32 → Option (Int32)
  | 0, _, _ => none
  | n + 1, x2_4, x3_4 =>
    if (4 : Int32) ≤ x3_4 then
    k x2_4
    else
    g_bind (g_X8_letsIn u x3_4) (fun (y2 : Int32) =>
    g_let (fun (x2_40 : Int32) => g_let (x3_4 + 1) (fun (v5 : Int32) =>
    lp_X8_laneToEnter_4 u k n x2_40 v5)) (fun (j40_4 : Int32 → Option (Int32)) =>
    if y2 = 0 then
    j40_4 x2_4
    else
    g_let (fun (_ : Unit) => j40_4 x3_4) (fun (j38_7 : Unit → Option (Int32)) =>
    if x2_4 = (-1 : Int32) then
    j38_7 ()
    else
    g_in x3_4 48 (
    g_in x2_4 48 (
    if (cT_held u x2_4.toNatClampNeg) ≤ (cT_held u x3_4.toNatClampNeg) then
    j40_4 x2_4
    else
    j38_7 ())))))
def g_X8_laneToEnter (u : GS) : Option (Int32) :=
    lp_X8_laneToEnter_4 u (fun (x2_4 : Int32)  => some x2_4) FU (-1 : Int32) (0 : Int32)

def lp_X8_arrive_28 (k : GS → Option (GS)) : Nat → Int32 → GS → Option (GS)
  | 0, _, _ => none
  | n + 1, x2_28, w28 =>
    if (80 : Int32) ≤ x2_28 then
    k w28
    else
    if (cT_waiting w28) ≤ 0 then
    k w28
    else
    g_bind (g_X8_laneToEnter w28) (fun (y5 : Int32) =>
    if y5 = (-1 : Int32) then
    some w28
    else
    g_in y5 48 (
    g_in y5 48 (
    g_let (cT_held_set w28 (upd (cT_held w28) y5.toNatClampNeg ((cT_held w28 y5.toNatClampNeg) + (1 : Int32)))) (fun (u10 : GS) =>
    g_let (cT_waiting_set u10 ((cT_waiting u10) - (1 : Int32))) (fun (u11 : GS) =>
    g_let (x2_28 + 1) (fun (v12 : Int32) =>
    lp_X8_arrive_28 k n v12 u11))))))
def g_X8_arrive (u : GS) : Option (GS) :=
    g_let (cT_came_set u ((cT_came u) + (cT_demand u))) (fun (u1 : GS) =>
    g_let (cT_waiting_set u1 ((cT_waiting u1) + (cT_demand u1))) (fun (u2 : GS) =>
    lp_X8_arrive_28 (fun (w28 : GS)  => some w28) FU (0 : Int32) u2))

def lp_X8_judgeBroken_2 (k : GS → Option (GS)) : Nat → Int32 → GS → Option (GS)
  | 0, _, _ => none
  | n + 1, x1_2, w2 =>
    if (12 : Int32) ≤ x1_2 then
    k w2
    else
    g_bind (g_X8_mostIn w2 x1_2) (fun (y2 : Int32) =>
    g_let (fun (z0_45 : Int32) => g_in x1_2 12 (
    g_let (cT_broken_set w2 (upd (cT_broken w2) x1_2.toNatClampNeg (vp_nar .boolean z0_45))) (fun (u6 : GS) =>
    g_let (x1_2 + 1) (fun (v7 : Int32) =>
    lp_X8_judgeBroken_2 k n v7 u6)))) (fun (j45_4 : Int32 → Option (GS)) =>
    g_let (fun (_ : Unit) => j45_4 (1 : Int32)) (fun (j40_8 : Unit → Option (GS)) =>
    if (15 : Int32) ≤ y2 then
    j40_8 ()
    else
    g_in x1_2 12 (
    g_let (fun (_ : Unit) => j45_4 (0 : Int32)) (fun (j44_11 : Unit → Option (GS)) =>
    if (cT_broken w2 x1_2.toNatClampNeg) = 0 then
    j44_11 ()
    else
    if y2 < (8 : Int32) then
    j44_11 ()
    else
    j40_8 ())))))
def g_X8_judgeBroken (u : GS) : Option (GS) :=
    lp_X8_judgeBroken_2 (fun (w2 : GS)  => some w2) FU (0 : Int32) u

def g_X9_needArgument (u : GS) (p0 : Int32) : Option (g_X × GS) :=
    if p0 = 0 then
    some (.inr "java/lang/IllegalArgumentException", u)
    else
    some (.inl 0, u)

def g_X9_demand (u : GS) (p0 : Int32) : Option (g_X × GS) :=
    g_bind (g_X9_isWithin p0 (0 : Int32) (40 : Int32)) (fun (y1 : Int32) =>
    g_xb (g_X9_needArgument u y1) id (fun (y3 : Int32) (u4 : GS) =>
    g_let (cT_demand u4) (fun (v6 : Int32) =>
    g_let (cT_demand_set u4 p0) (fun (u7 : GS) =>
    some (.inl v6, u7)))))

def g_X9_needState (u : GS) (p0 : Int32) : Option (g_X × GS) :=
    if p0 = 0 then
    some (.inr "java/lang/IllegalStateException", u)
    else
    some (.inl 0, u)

def g_X9_endWorkOf (u : GS) (p0 : Int32) : Option (GS) :=
    g_in p0 3 (
    g_let (cP_incidents u p0.toNatClampNeg) (fun (v2 : Int32) =>
    g_bind (g_X2_has u v2) (fun (y3 : Int32) =>
    g_let (fun (w74 : GS) => g_in p0 3 (
    g_let (cP_incidents_set w74 (upd (cP_incidents w74) p0.toNatClampNeg (-1 : Int32))) (fun (u7 : GS) =>
    some u7))) (fun (j74_5 : GS → Option (GS)) =>
    if y3 = 0 then
    j74_5 u
    else
    g_in v2 12 (
    g_bind (g_X8_clearStopped u (cI_places u v2.toNatClampNeg)) (fun (y10 : GS) =>
    g_in v2 12 (
    g_let (cI_how_set y10 (upd (cI_how y10) v2.toNatClampNeg (2 : Int32))) (fun (u13 : GS) =>
    g_in v2 12 (
    g_let (cI_patrols_set u13 (upd (cI_patrols u13) v2.toNatClampNeg (-1 : Int32))) (fun (u15 : GS) =>
    g_bind (g_X2_sectionOf u15 v2) (fun (y16 : Int32) =>
    g_in p0 3 (
    g_let (cP_sections_set u15 (upd (cP_sections u15) p0.toNatClampNeg y16)) (fun (u19 : GS) =>
    j74_5 u19)))))))))))))

def lp_X9_movePatrols_2 (k : GS → Option (GS)) : Nat → Int32 → GS → Option (GS)
  | 0, _, _ => none
  | n + 1, x1_2, w2 =>
    if (3 : Int32) ≤ x1_2 then
    k w2
    else
    g_in x1_2 3 (
    g_let (fun (w50 : GS) => g_let (x1_2 + 1) (fun (v4 : Int32) =>
    lp_X9_movePatrols_2 k n v4 w50)) (fun (j50_3 : GS → Option (GS)) =>
    if (cP_incidents w2 x1_2.toNatClampNeg) = (-1 : Int32) then
    j50_3 w2
    else
    g_in x1_2 3 (
    g_in x1_2 3 (
    g_let (cP_minutesLeft_set w2 (upd (cP_minutesLeft w2) x1_2.toNatClampNeg ((cP_minutesLeft w2 x1_2.toNatClampNeg) - (1 : Int32)))) (fun (u8 : GS) =>
    g_in x1_2 3 (
    if 0 < (cP_minutesLeft u8 x1_2.toNatClampNeg) then
    j50_3 u8
    else
    g_bind (g_X9_endWorkOf u8 x1_2) (fun (y11 : GS) =>
    j50_3 y11)))))))
def g_X9_movePatrols (u : GS) : Option (GS) :=
    lp_X9_movePatrols_2 (fun (w2 : GS)  => some w2) FU (0 : Int32) u

def g_X9_setLaneSigns (u : GS) : Option (GS) :=
    g_bind (g_X3_setAnew u (c_minute u)) (fun (y1 : GS) =>
    some y1)

def g_X9_comeToNextMinute (u : GS) : Option (GS) :=
    g_let (c_minute_set u ((c_minute u) + (1 : Int32))) (fun (u1 : GS) =>
    g_bind (g_X9_movePatrols u1) (fun (y2 : GS) =>
    g_bind (g_X9_setLaneSigns y2) (fun (y4 : GS) =>
    g_bind (g_X8_goOn y4) (fun (y6 : GS) =>
    g_bind (g_X8_arrive y6) (fun (y8 : GS) =>
    g_bind (g_X8_judgeBroken y8) (fun (y10 : GS) =>
    g_bind (g_X7_setAnew y10 (c_minute y10)) (fun (y12 : GS) =>
    g_bind (g_X5_keep y12 (c_minute y12)) (fun (y14 : GS) =>
    some y14))))))))

def lp_X9_pass_32 (p0 : Int32) (k : GS → Option (g_X × GS)) : Nat → Int32 → GS → Option (g_X × GS)
  | 0, _, _ => none
  | n + 1, x2_32, w32 =>
    if p0 ≤ x2_32 then
    k w32
    else
    g_bind (g_X9_comeToNextMinute w32) (fun (y11 : GS) =>
    g_let (x2_32 + 1) (fun (v13 : Int32) =>
    lp_X9_pass_32 p0 k n v13 y11))
def g_X9_pass (u : GS) (p0 : Int32) : Option (g_X × GS) :=
    g_bind (g_X9_isWithin p0 (1 : Int32) (60 : Int32)) (fun (y1 : Int32) =>
    g_xb (g_X9_needArgument u y1) id (fun (y3 : Int32) (u4 : GS) =>
    g_let (fun (z0_27 : Int32) => g_xb (g_X9_needState u4 z0_27) id (fun (y7 : Int32) (u8 : GS) =>
    lp_X9_pass_32 p0 (fun (w32 : GS)  => some (.inl (c_minute w32), w32)) FU (0 : Int32) u8)) (fun (j27_6 : Int32 → Option (g_X × GS)) =>
    if (600 : Int32) < ((c_minute u4) + p0) then
    j27_6 (0 : Int32)
    else
    j27_6 (1 : Int32))))

def g_X9_needIndex (u : GS) (p0 : Int32) : Option (g_X × GS) :=
    if p0 = 0 then
    some (.inr "java/lang/IndexOutOfBoundsException", u)
    else
    some (.inl 0, u)

def g_X9_needSection (u : GS) (p0 : Int32) : Option (g_X × GS) :=
    g_bind (g_X9_isWithin p0 (0 : Int32) (11 : Int32)) (fun (y1 : Int32) =>
    g_xb (g_X9_needIndex u y1) id (fun (y3 : Int32) (u4 : GS) =>
    some (.inl 0, u4)))

def g_X9_needPlace (u : GS) (p0 : Int32) (p1 : Int32) : Option (g_X × GS) :=
    g_xb (g_X9_needSection u p0) id (fun (y1 : Int32) (u2 : GS) =>
    g_bind (g_X9_isWithin p1 (0 : Int32) (3 : Int32)) (fun (y4 : Int32) =>
    g_xb (g_X9_needIndex u2 y4) id (fun (y6 : Int32) (u7 : GS) =>
    some (.inl 0, u7))))

def g_X9_holds (u : GS) (p0 : Int32) (p1 : Int32) : Option (g_X × GS) :=
    g_xb (g_X9_needPlace u p0 p1) id (fun (y1 : Int32) (u2 : GS) =>
    g_bind (g_X9_placeOf p0 p1) (fun (y4 : Int32) =>
    g_in y4 48 (
    some (.inl (cT_held u2 y4.toNatClampNeg), u2))))

def g_X9_vehicles (u : GS) (p0 : Int32) : Option (g_X × GS) :=
    g_bind (g_X9_isWithin p0 (0 : Int32) (3 : Int32)) (fun (y1 : Int32) =>
    g_xb (g_X9_needArgument u y1) id (fun (y3 : Int32) (u4 : GS) =>
    if p0 = 0 then
    some (.inl (cT_came u4), u4)
    else
    if p0 = 1 then
    g_bind (g_X8_countOnRoad u4) (fun (y6 : Int32) =>
    some (.inl y6, u4))
    else
    if p0 = 2 then
    some (.inl (cT_waiting u4), u4)
    else
    some (.inl (cT_gone u4), u4)))

def g_X9_section (u : GS) (p0 : Int32) (p1 : Int32) : Option (g_X × GS) :=
    g_xb (g_X9_needSection u p0) id (fun (y1 : Int32) (u2 : GS) =>
    g_bind (g_X9_isWithin p1 (0 : Int32) (5 : Int32)) (fun (y4 : Int32) =>
    g_xb (g_X9_needArgument u2 y4) id (fun (y6 : Int32) (u7 : GS) =>
    if p1 = 0 then
    g_bind (g_X8_speedAt u7 p0) (fun (y9 : Int32) =>
    some (.inl y9, u7))
    else
    if p1 = 1 then
    g_bind (g_X1_beliefAt u7 p0) (fun (y11 : Int32) =>
    some (.inl y11, u7))
    else
    if p1 = 2 then
    g_bind (g_X1_guessAt u7 p0) (fun (y13 : Int32) =>
    some (.inl y13, u7))
    else
    if p1 = 3 then
    g_in p0 12 (
    some (.inl (cS_shown u7 p0.toNatClampNeg), u7))
    else
    if p1 = 4 then
    g_in p0 12 (
    if (cT_broken u7 p0.toNatClampNeg) = 0 then
    some (.inl (0 : Int32), u7)
    else
    some (.inl (1 : Int32), u7))
    else
    g_in p0 12 (
    some (.inl (cD_is u7 p0.toNatClampNeg), u7)))))

def g_X9_detector (u : GS) (p0 : Int32) (p1 : Int32) (p2 : Int32) : Option (g_X × GS) :=
    g_xb (g_X9_needSection u p0) id (fun (y1 : Int32) (u2 : GS) =>
    g_bind (g_X9_isWithin p1 (0 : Int32) (2 : Int32)) (fun (y4 : Int32) =>
    g_xb (g_X9_needArgument u2 y4) id (fun (y6 : Int32) (u7 : GS) =>
    g_let (fun (z0_33 : Int32) => g_xb (g_X9_needArgument u7 z0_33) id (fun (y10 : Int32) (u11 : GS) =>
    g_in p0 12 (
    g_let (cD_is u11 p0.toNatClampNeg) (fun (v14 : Int32) =>
    g_in p0 12 (
    g_let (cD_is_set u11 (upd (cD_is u11) p0.toNatClampNeg p1)) (fun (u16 : GS) =>
    g_in p0 12 (
    g_let (cD_stuckAt_set u16 (upd (cD_stuckAt u16) p0.toNatClampNeg p2)) (fun (u18 : GS) =>
    some (.inl v14, u18))))))))) (fun (j33_9 : Int32 → Option (g_X × GS)) =>
    g_let (fun (_ : Unit) => j33_9 (1 : Int32)) (fun (j28_19 : Unit → Option (g_X × GS)) =>
    if p1 = (1 : Int32) then
    g_bind (g_X9_isWithin p2 (0 : Int32) (120 : Int32)) (fun (y21 : Int32) =>
    if y21 = 0 then
    j33_9 (0 : Int32)
    else
    j28_19 ())
    else
    j28_19 ())))))

def g_X9_weather (u : GS) (p0 : Int32) : Option (g_X × GS) :=
    g_bind (g_X9_isWithin p0 (0 : Int32) (3 : Int32)) (fun (y1 : Int32) =>
    g_xb (g_X9_needArgument u y1) id (fun (y3 : Int32) (u4 : GS) =>
    g_let (cS_weather u4) (fun (v6 : Int32) =>
    g_let (cS_weather_set u4 p0) (fun (u7 : GS) =>
    some (.inl v6, u7)))))

def g_X9_isSpeedSign (p0 : Int32) : Option (Int32) :=
    g_bind (g_X9_isWithin p0 (40 : Int32) (120 : Int32)) (fun (y1 : Int32) =>
    if y1 = 0 then
    some (0 : Int32)
    else
    if (p0 - p0 / (20 : Int32) * (20 : Int32)) = 0 then
    some (1 : Int32)
    else
    some (0 : Int32))

def g_X9_limit (u : GS) (p0 : Int32) (p1 : Int32) : Option (g_X × GS) :=
    g_xb (g_X9_needSection u p0) id (fun (y1 : Int32) (u2 : GS) =>
    g_let (fun (z0_21 : Int32) => g_xb (g_X9_needArgument u2 z0_21) id (fun (y5 : Int32) (u6 : GS) =>
    g_in p0 12 (
    g_let (cS_limits u6 p0.toNatClampNeg) (fun (v9 : Int32) =>
    g_in p0 12 (
    g_let (cS_limits_set u6 (upd (cS_limits u6) p0.toNatClampNeg p1)) (fun (u11 : GS) =>
    some (.inl v9, u11))))))) (fun (j21_4 : Int32 → Option (g_X × GS)) =>
    g_let (fun (_ : Unit) => j21_4 (1 : Int32)) (fun (j16_12 : Unit → Option (g_X × GS)) =>
    if p1 = (-1 : Int32) then
    j16_12 ()
    else
    g_bind (g_X9_isSpeedSign p1) (fun (y14 : Int32) =>
    if y14 = 0 then
    j21_4 (0 : Int32)
    else
    j16_12 ()))))

def g_X9_order (u : GS) (p0 : Int32) (p1 : Int32) (p2 : Int32) : Option (g_X × GS) :=
    g_xb (g_X9_needPlace u p0 p1) id (fun (y1 : Int32) (u2 : GS) =>
    g_let (fun (z0_24 : Int32) => g_xb (g_X9_needArgument u2 z0_24) id (fun (y5 : Int32) (u6 : GS) =>
    g_let (fun (z0_41 : Int32) => g_xb (g_X9_needState u6 z0_41) id (fun (y9 : Int32) (u10 : GS) =>
    g_bind (g_X9_placeOf p0 p1) (fun (y12 : Int32) =>
    g_in y12 48 (
    g_let (cL_orders u10 y12.toNatClampNeg) (fun (v15 : Int32) =>
    g_in y12 48 (
    g_let (cL_orders_set u10 (upd (cL_orders u10) y12.toNatClampNeg p2)) (fun (u17 : GS) =>
    some (.inl v15, u17)))))))) (fun (j41_8 : Int32 → Option (g_X × GS)) =>
    g_let (fun (_ : Unit) => j41_8 (1 : Int32)) (fun (j36_18 : Unit → Option (g_X × GS)) =>
    if p2 = (2 : Int32) then
    if p0 = 0 then
    j41_8 (0 : Int32)
    else
    j36_18 ()
    else
    j36_18 ())))) (fun (j24_4 : Int32 → Option (g_X × GS)) =>
    g_let (fun (_ : Unit) => j24_4 (1 : Int32)) (fun (j19_21 : Unit → Option (g_X × GS)) =>
    if p2 = (-1 : Int32) then
    j19_21 ()
    else
    g_bind (g_X9_isWithin p2 (0 : Int32) (2 : Int32)) (fun (y23 : Int32) =>
    if y23 = 0 then
    j24_4 (0 : Int32)
    else
    j19_21 ()))))

def g_X9_sign (u : GS) (p0 : Int32) (p1 : Int32) : Option (g_X × GS) :=
    g_xb (g_X9_needPlace u p0 p1) id (fun (y1 : Int32) (u2 : GS) =>
    g_bind (g_X9_setLaneSigns u2) (fun (y4 : GS) =>
    g_bind (g_X9_placeOf p0 p1) (fun (y6 : Int32) =>
    g_in y6 48 (
    some (.inl (cL_shown y4 y6.toNatClampNeg), y4)))))

def g_X9_isLawful (u : GS) : Option (Int32 × GS) :=
    g_bind (g_X9_setLaneSigns u) (fun (y1 : GS) =>
    g_bind (g_X7_areLawful y1) (fun (y3 : Int32) =>
    if y3 = 0 then
    some ((0 : Int32), y1)
    else
    g_bind (g_X3_areLawful y1) (fun (y6 : Int32) =>
    if y6 = 0 then
    some ((0 : Int32), y1)
    else
    some ((1 : Int32), y1))))

def g_X9_look (u : GS) (p0 : Int32) : Option (g_X × GS) :=
    g_xb (g_X9_needSection u p0) id (fun (y1 : Int32) (u2 : GS) =>
    g_bind (g_X9_placeOf p0 (0 : Int32)) (fun (y4 : Int32) =>
    g_bind (g_X8_isClear u2 y4) (fun (y6 : Int32) =>
    g_let (fun (z0_39 : Int32) => g_in p0 12 (
    g_let (cH_foundClearAt_set u2 (upd (cH_foundClearAt u2) p0.toNatClampNeg z0_39)) (fun (u10 : GS) =>
    g_bo y6 (some (.inl y6, u10))))) (fun (j39_8 : Int32 → Option (g_X × GS)) =>
    if y6 = 0 then
    j39_8 (-1000 : Int32)
    else
    j39_8 (c_minute u2)))))

def g_X9_openShoulder (u : GS) (p0 : Int32) (p1 : Int32) : Option (g_X × GS) :=
    g_xb (g_X9_needSection u p0) id (fun (y1 : Int32) (u2 : GS) =>
    g_xb (g_X9_needSection u2 p1) id (fun (y4 : Int32) (u5 : GS) =>
    g_let (fun (z0_18 : Int32) => g_xb (g_X9_needArgument u5 z0_18) id (fun (y8 : Int32) (u9 : GS) =>
    g_bind (g_X6_canOpen u9 p0 p1 (c_minute u9)) (fun (y11 : Int32) =>
    g_xb (g_X9_needState u9 y11) id (fun (y13 : Int32) (u14 : GS) =>
    g_bind (g_X6_openAll u14 p0 p1) (fun (y16 : Int32 × GS) =>
    some (.inl y16.1, y16.2)))))) (fun (j18_7 : Int32 → Option (g_X × GS)) =>
    if p1 < p0 then
    j18_7 (0 : Int32)
    else
    j18_7 (1 : Int32))))

def g_X9_shutShoulder (u : GS) : Option (Int32 × GS) :=
    g_bind (g_X6_shutAll u) (fun (y1 : Int32 × GS) =>
    some (y1.1, y1.2))

def g_X9_stop (u : GS) (p0 : Int32) (p1 : Int32) : Option (g_X × GS) :=
    g_xb (g_X9_needPlace u p0 p1) id (fun (y1 : Int32) (u2 : GS) =>
    g_bind (g_X9_placeOf p0 p1) (fun (y4 : Int32) =>
    g_in y4 48 (
    g_let (fun (z0_28 : Int32) => g_xb (g_X9_needState u2 z0_28) id (fun (y8 : Int32) (u9 : GS) =>
    g_in y4 48 (
    g_let (cT_stopped_set u9 (upd (cT_stopped u9) y4.toNatClampNeg (vp_nar .boolean (1 : Int32)))) (fun (u12 : GS) =>
    if p1 = 0 then
    g_in p0 12 (
    g_let (cH_foundClearAt_set u12 (upd (cH_foundClearAt u12) p0.toNatClampNeg (-1000 : Int32))) (fun (u15 : GS) =>
    g_bind (g_X6_shutAll u15) (fun (y16 : Int32 × GS) =>
    some (.inl 0, y16.2))))
    else
    some (.inl 0, u12))))) (fun (j28_7 : Int32 → Option (g_X × GS)) =>
    if (cT_stopped u2 y4.toNatClampNeg) = 0 then
    j28_7 (1 : Int32)
    else
    j28_7 (0 : Int32)))))

def g_X9_report (u : GS) (p0 : Int32) (p1 : Int32) : Option (g_X × GS) :=
    g_xb (g_X9_needPlace u p0 p1) id (fun (y1 : Int32) (u2 : GS) =>
    g_bind (g_X9_placeOf p0 p1) (fun (y4 : Int32) =>
    g_let (fun (z0_24 : Int32) => g_xb (g_X9_needState u2 z0_24) id (fun (y7 : Int32) (u8 : GS) =>
    g_bind (g_X2_canAdd u8 y4) (fun (y10 : Int32) =>
    g_xb (g_X9_needState u8 y10) id (fun (y12 : Int32) (u13 : GS) =>
    g_bind (g_X2_add u13 y4) (fun (y15 : Int32 × GS) =>
    some (.inl y15.1, y15.2)))))) (fun (j24_6 : Int32 → Option (g_X × GS)) =>
    g_let (fun (_ : Unit) => j24_6 (1 : Int32)) (fun (j19_17 : Unit → Option (g_X × GS)) =>
    if p0 = 0 then
    if p1 = 0 then
    j19_17 ()
    else
    j24_6 (0 : Int32)
    else
    j19_17 ()))))

def g_X9_confirm (u : GS) (p0 : Int32) : Option (g_X × GS) :=
    g_bind (g_X2_has u p0) (fun (y1 : Int32) =>
    g_xb (g_X9_needIndex u y1) id (fun (y3 : Int32) (u4 : GS) =>
    g_in p0 12 (
    g_let (fun (z0_28 : Int32) => g_xb (g_X9_needState u4 z0_28) id (fun (y8 : Int32) (u9 : GS) =>
    g_in p0 12 (
    g_bind (g_X8_isStoppedAt u9 (cI_places u9 p0.toNatClampNeg)) (fun (y12 : Int32) =>
    g_let (fun (z0_65 : Int32) => g_in p0 12 (
    g_let (cI_how_set u9 (upd (cI_how u9) p0.toNatClampNeg z0_65)) (fun (u16 : GS) =>
    g_in p0 12 (
    some (.inl (cI_how u16 p0.toNatClampNeg), u16))))) (fun (j65_14 : Int32 → Option (g_X × GS)) =>
    if y12 = 0 then
    j65_14 (2 : Int32)
    else
    j65_14 (1 : Int32)))))) (fun (j28_7 : Int32 → Option (g_X × GS)) =>
    if (cI_how u4 p0.toNatClampNeg) = 0 then
    j28_7 (1 : Int32)
    else
    j28_7 (0 : Int32)))))

def g_X9_incident (u : GS) (p0 : Int32) (p1 : Int32) : Option (g_X × GS) :=
    g_bind (g_X2_has u p0) (fun (y1 : Int32) =>
    g_xb (g_X9_needIndex u y1) id (fun (y3 : Int32) (u4 : GS) =>
    g_bind (g_X9_isWithin p1 (0 : Int32) (3 : Int32)) (fun (y6 : Int32) =>
    g_xb (g_X9_needArgument u4 y6) id (fun (y8 : Int32) (u9 : GS) =>
    if p1 = 0 then
    g_bind (g_X2_sectionOf u9 p0) (fun (y11 : Int32) =>
    some (.inl y11, u9))
    else
    if p1 = 1 then
    g_in p0 12 (
    g_let (cI_places u9 p0.toNatClampNeg) (fun (v14 : Int32) =>
    some (.inl (v14 - v14 / (4 : Int32) * (4 : Int32)), u9)))
    else
    if p1 = 2 then
    g_in p0 12 (
    some (.inl (cI_how u9 p0.toNatClampNeg), u9))
    else
    g_in p0 12 (
    some (.inl (cI_patrols u9 p0.toNatClampNeg), u9))))))

def lp_X9_pattern_2 (u : GS) (k : Unit → Option (Int32)) : Nat → Int32 → Option (Int32)
  | 0, _ => none
  | n + 1, x1_2 =>
    if (11 : Int32) ≤ x1_2 then
    k ()
    else
    g_bind (g_X1_beliefAt u x1_2) (fun (y2 : Int32) =>
    g_let (fun (_ : Unit) => g_let (x1_2 + 1) (fun (v5 : Int32) =>
    lp_X9_pattern_2 u k n v5)) (fun (j53_4 : Unit → Option (Int32)) =>
    if y2 = (-1 : Int32) then
    j53_4 ()
    else
    if (40 : Int32) ≤ y2 then
    j53_4 ()
    else
    g_bind (g_X1_beliefAt u (x1_2 + (1 : Int32))) (fun (y8 : Int32) =>
    if y8 < (80 : Int32) then
    j53_4 ()
    else
    some x1_2)))
def g_X9_pattern (u : GS) : Option (Int32) :=
    lp_X9_pattern_2 u (fun (_ : Unit) => some (-1 : Int32)) FU (0 : Int32)

def g_X9_needPatrol (u : GS) (p0 : Int32) : Option (g_X × GS) :=
    g_bind (g_X9_isWithin p0 (0 : Int32) (2 : Int32)) (fun (y1 : Int32) =>
    g_xb (g_X9_needIndex u y1) id (fun (y3 : Int32) (u4 : GS) =>
    some (.inl 0, u4)))

def g_X9_minutesThrough (u : GS) (p0 : Int32) : Option (Int32) :=
    g_bind (g_X6_isOpenAt u p0) (fun (y1 : Int32) =>
    if y1 = 0 then
    some (1 : Int32)
    else
    g_bind (g_X8_mostIn u p0) (fun (y4 : Int32) =>
    some ((1 : Int32) + (y4 / (5 : Int32)))))

def lp_X9_wayBetween_18 (u : GS) (p1 : Int32) (k : Int32 → Option (Int32)) : Nat → Int32 → Int32 → Option (Int32)
  | 0, _, _ => none
  | n + 1, x3_18, x4_18 =>
    if p1 < x4_18 then
    k x3_18
    else
    g_bind (g_X9_minutesThrough u x4_18) (fun (y4 : Int32) =>
    g_let (x3_18 + y4) (fun (v6 : Int32) =>
    g_let (x4_18 + 1) (fun (v7 : Int32) =>
    lp_X9_wayBetween_18 u p1 k n v6 v7)))
def g_X9_wayBetween (u : GS) (p0 : Int32) (p1 : Int32) : Option (Int32) :=
    if p0 < p1 then
    g_let (p0 + (1 : Int32)) (fun (v2 : Int32) =>
    lp_X9_wayBetween_18 u p1 (fun (x3_18 : Int32)  => some x3_18) FU (0 : Int32) v2)
    else
    some ((3 : Int32) * (p0 - p1))

def g_X9_way (u : GS) (p0 : Int32) (p1 : Int32) : Option (g_X × GS) :=
    g_xb (g_X9_needPatrol u p0) id (fun (y1 : Int32) (u2 : GS) =>
    g_xb (g_X9_needSection u2 p1) id (fun (y4 : Int32) (u5 : GS) =>
    g_in p0 3 (
    g_bind (g_X9_wayBetween u5 (cP_sections u5 p0.toNatClampNeg) p1) (fun (y8 : Int32) =>
    some (.inl y8, u5)))))

def g_X9_send (u : GS) (p0 : Int32) (p1 : Int32) : Option (g_X × GS) :=
    g_xb (g_X9_needPatrol u p0) id (fun (y1 : Int32) (u2 : GS) =>
    g_bind (g_X2_has u2 p1) (fun (y4 : Int32) =>
    g_xb (g_X9_needIndex u2 y4) id (fun (y6 : Int32) (u7 : GS) =>
    g_in p0 3 (
    g_let (fun (z0_33 : Int32) => g_xb (g_X9_needState u7 z0_33) id (fun (y11 : Int32) (u12 : GS) =>
    g_in p1 12 (
    g_let (fun (z0_54 : Int32) => g_xb (g_X9_needState u12 z0_54) id (fun (y16 : Int32) (u17 : GS) =>
    g_in p1 12 (
    g_let (fun (z0_75 : Int32) => g_xb (g_X9_needState u17 z0_75) id (fun (y21 : Int32) (u22 : GS) =>
    g_in p0 3 (
    g_bind (g_X2_sectionOf u22 p1) (fun (y25 : Int32) =>
    g_bind (g_X9_wayBetween u22 (cP_sections u22 p0.toNatClampNeg) y25) (fun (y27 : Int32) =>
    g_in p1 12 (
    g_let (cI_patrols_set u22 (upd (cI_patrols u22) p1.toNatClampNeg p0)) (fun (u30 : GS) =>
    g_in p0 3 (
    g_let (cP_incidents_set u30 (upd (cP_incidents u30) p0.toNatClampNeg p1)) (fun (u32 : GS) =>
    g_in p0 3 (
    g_let (cP_minutesLeft_set u32 (upd (cP_minutesLeft u32) p0.toNatClampNeg (y27 + (5 : Int32)))) (fun (u34 : GS) =>
    g_in p0 3 (
    some (.inl (cP_minutesLeft u34 p0.toNatClampNeg), u34))))))))))))) (fun (j75_20 : Int32 → Option (g_X × GS)) =>
    if (cI_patrols u17 p1.toNatClampNeg) = (-1 : Int32) then
    j75_20 (1 : Int32)
    else
    j75_20 (0 : Int32))))) (fun (j54_15 : Int32 → Option (g_X × GS)) =>
    if (cI_how u12 p1.toNatClampNeg) = (1 : Int32) then
    j54_15 (1 : Int32)
    else
    j54_15 (0 : Int32))))) (fun (j33_10 : Int32 → Option (g_X × GS)) =>
    if (cP_incidents u7 p0.toNatClampNeg) = (-1 : Int32) then
    j33_10 (1 : Int32)
    else
    j33_10 (0 : Int32))))))

def g_X9_patrol (u : GS) (p0 : Int32) (p1 : Int32) : Option (g_X × GS) :=
    g_xb (g_X9_needPatrol u p0) id (fun (y1 : Int32) (u2 : GS) =>
    g_bind (g_X9_isWithin p1 (0 : Int32) (2 : Int32)) (fun (y4 : Int32) =>
    g_xb (g_X9_needArgument u2 y4) id (fun (y6 : Int32) (u7 : GS) =>
    if p1 = 0 then
    g_in p0 3 (
    some (.inl (cP_sections u7 p0.toNatClampNeg), u7))
    else
    if p1 = 1 then
    g_in p0 3 (
    some (.inl (cP_incidents u7 p0.toNatClampNeg), u7))
    else
    g_in p0 3 (
    some (.inl (cP_minutesLeft u7 p0.toNatClampNeg), u7)))))

def g_X9_works (u : GS) (p0 : Int32) (p1 : Int32) (p2 : Int32) (p3 : Int32) (p4 : Int32) : Option (g_X × GS) :=
    g_bind (g_X9_isWithin p0 (1 : Int32) (3 : Int32)) (fun (y1 : Int32) =>
    g_xb (g_X9_needIndex u y1) id (fun (y3 : Int32) (u4 : GS) =>
    g_bind (g_X9_isWithin p1 (1 : Int32) (11 : Int32)) (fun (y6 : Int32) =>
    g_xb (g_X9_needIndex u4 y6) id (fun (y8 : Int32) (u9 : GS) =>
    g_bind (g_X9_isWithin p2 (1 : Int32) (11 : Int32)) (fun (y11 : Int32) =>
    g_xb (g_X9_needIndex u9 y11) id (fun (y13 : Int32) (u14 : GS) =>
    g_let (fun (z0_39 : Int32) => g_xb (g_X9_needArgument u14 z0_39) id (fun (y17 : Int32) (u18 : GS) =>
    g_bind (g_X9_isWithin p3 (c_minute u18) (599 : Int32)) (fun (y20 : Int32) =>
    g_xb (g_X9_needArgument u18 y20) id (fun (y22 : Int32) (u23 : GS) =>
    g_let (fun (z0_77 : Int32) => g_xb (g_X9_needArgument u23 z0_77) id (fun (y26 : Int32) (u27 : GS) =>
    g_let (fun (z0_97 : Int32) => g_xb (g_X9_needState u27 z0_97) id (fun (y30 : Int32) (u31 : GS) =>
    g_bind (g_X0_writeNext u31 p0 p1 p2 p3 p4) (fun (y33 : GS) =>
    g_bind (g_X0_nextTakesLastLane y33) (fun (y35 : Int32) =>
    g_let (fun (z0_129 : Int32) => g_xb (g_X9_needState y33 z0_129) id (fun (y38 : Int32) (u39 : GS) =>
    g_let (cB_count_set u39 ((cB_count u39) + (1 : Int32))) (fun (u41 : GS) =>
    some (.inl ((cB_count u41) - (1 : Int32)), u41)))) (fun (j129_37 : Int32 → Option (g_X × GS)) =>
    if y35 = 0 then
    j129_37 (1 : Int32)
    else
    j129_37 (0 : Int32)))))) (fun (j97_29 : Int32 → Option (g_X × GS)) =>
    if (8 : Int32) ≤ (cB_count u27) then
    j97_29 (0 : Int32)
    else
    j97_29 (1 : Int32)))) (fun (j77_25 : Int32 → Option (g_X × GS)) =>
    g_let (fun (_ : Unit) => j77_25 (0 : Int32)) (fun (j76_44 : Unit → Option (g_X × GS)) =>
    if p4 ≤ p3 then
    j76_44 ()
    else
    if (600 : Int32) < p4 then
    j76_44 ()
    else
    j77_25 (1 : Int32))))))) (fun (j39_16 : Int32 → Option (g_X × GS)) =>
    if p2 < p1 then
    j39_16 (0 : Int32)
    else
    j39_16 (1 : Int32))))))))

def g_X9_isOn (u : GS) (p0 : Int32) : Option (g_X × GS) :=
    g_bind (g_X9_isWithin p0 (0 : Int32) ((cB_count u) - (1 : Int32))) (fun (y1 : Int32) =>
    g_xb (g_X9_needIndex u y1) id (fun (y3 : Int32) (u4 : GS) =>
    g_bind (g_X0_isRunning u4 p0 (c_minute u4)) (fun (y6 : Int32) =>
    g_bo y6 (some (.inl y6, u4)))))

def g_X9_proof (u : GS) (p0 : Int32) (p1 : Int32) (p2 : Int32) : Option (g_X × GS) :=
    g_xb (g_X9_needSection u p1) id (fun (y1 : Int32) (u2 : GS) =>
    g_let (fun (z0_13 : Int32) => g_xb (g_X9_needArgument u2 z0_13) id (fun (y5 : Int32) (u6 : GS) =>
    g_bind (g_X9_isWithin p2 (0 : Int32) (4 : Int32)) (fun (y8 : Int32) =>
    g_xb (g_X9_needArgument u6 y8) id (fun (y10 : Int32) (u11 : GS) =>
    g_bind (g_X5_isKept p0 (c_minute u11)) (fun (y13 : Int32) =>
    g_xb (g_X9_needState u11 y13) id (fun (y15 : Int32) (u16 : GS) =>
    if p2 = 0 then
    g_bind (g_X5_speedSign u16 p0 p1) (fun (y21 : Int32) =>
    some (.inl y21, u16))
    else
    g_bind (g_X5_laneSign u16 p0 p1 (p2 - (1 : Int32))) (fun (y19 : Int32) =>
    some (.inl y19, u16)))))))) (fun (j13_4 : Int32 → Option (g_X × GS)) =>
    if p0 < 0 then
    j13_4 (0 : Int32)
    else
    j13_4 (1 : Int32)))

def g_X9_isFined (u : GS) (p0 : Int32) (p1 : Int32) (p2 : Int32) : Option (g_X × GS) :=
    g_xb (g_X9_needSection u p1) id (fun (y1 : Int32) (u2 : GS) =>
    g_let (fun (z0_13 : Int32) => g_xb (g_X9_needArgument u2 z0_13) id (fun (y5 : Int32) (u6 : GS) =>
    g_bind (g_X9_isWithin p2 (0 : Int32) (250 : Int32)) (fun (y8 : Int32) =>
    g_xb (g_X9_needArgument u6 y8) id (fun (y10 : Int32) (u11 : GS) =>
    g_bind (g_X5_isKept p0 (c_minute u11)) (fun (y13 : Int32) =>
    g_xb (g_X9_needState u11 y13) id (fun (y15 : Int32) (u16 : GS) =>
    g_bind (g_X5_speedSign u16 p0 p1) (fun (y18 : Int32) =>
    if (p2 - y18) < (10 : Int32) then
    some (.inl (0 : Int32), u16)
    else
    some (.inl (1 : Int32), u16)))))))) (fun (j13_4 : Int32 → Option (g_X × GS)) =>
    if p0 < 0 then
    j13_4 (0 : Int32)
    else
    j13_4 (1 : Int32)))

def g_X10_thrown (u : MS) : Option (Int32) :=
    some (m_thrown u)

def g_X10_holds (u : MS) (p0 : Int32) : Option (Int32 × MS) :=
    g_let (m_thrown_set u p0) (fun (u1 : MS) =>
    if p0 = 0 then
    some ((1 : Int32), u1)
    else
    some ((0 : Int32), u1))

def g_X10_isIn (p0 : Int32) (p1 : Int32) (p2 : Int32) : Option (Int32) :=
    if p0 < p1 then
    some (0 : Int32)
    else
    if p2 < p0 then
    some (0 : Int32)
    else
    some (1 : Int32)

def g_X10_isSection (p0 : Int32) : Option (Int32) :=
    g_bind (g_X10_isIn p0 (0 : Int32) (11 : Int32)) (fun (y1 : Int32) =>
    g_bo y1 (some y1))

def g_X10_isPlace (p0 : Int32) (p1 : Int32) : Option (Int32) :=
    g_bind (g_X10_isSection p0) (fun (y1 : Int32) =>
    if y1 = 0 then
    some (0 : Int32)
    else
    g_bind (g_X10_isIn p1 (0 : Int32) (3 : Int32)) (fun (y4 : Int32) =>
    if y4 = 0 then
    some (0 : Int32)
    else
    some (1 : Int32)))

def g_X10_isOnNow (u : MS) (p0 : Int32) : Option (Int32) :=
    g_in p0 8 (
    if (m_now u) < (mB_worksBegin u p0.toNatClampNeg) then
    some (0 : Int32)
    else
    g_in p0 8 (
    if (mB_worksEnd u p0.toNatClampNeg) ≤ (m_now u) then
    some (0 : Int32)
    else
    some (1 : Int32)))

def lp_X10_areWorksAt_5 (u : MS) (p0 : Int32) (p1 : Int32) (k : Int32 → Option (Int32)) : Nat → Int32 → Int32 → Option (Int32)
  | 0, _, _ => none
  | n + 1, x3_5, x4_5 =>
    if (mB_works u) ≤ x4_5 then
    k x3_5
    else
    g_let (fun (z0_64 : Int32) => g_let (x4_5 + 1) (fun (v3 : Int32) =>
    lp_X10_areWorksAt_5 u p0 p1 k n z0_64 v3)) (fun (j64_2 : Int32 → Option (Int32)) =>
    g_let (fun (_ : Unit) => j64_2 (1 : Int32)) (fun (j59_4 : Unit → Option (Int32)) =>
    if x3_5 = 0 then
    g_in x4_5 8 (
    g_let (fun (_ : Unit) => j64_2 (0 : Int32)) (fun (j63_7 : Unit → Option (Int32)) =>
    if (mB_worksLane u x4_5.toNatClampNeg) = p1 then
    g_in x4_5 8 (
    g_in x4_5 8 (
    g_bind (g_X10_isIn p0 (mB_worksFrom u x4_5.toNatClampNeg) (mB_worksTo u x4_5.toNatClampNeg)) (fun (y11 : Int32) =>
    if y11 = 0 then
    j63_7 ()
    else
    g_bind (g_X10_isOnNow u x4_5) (fun (y14 : Int32) =>
    if y14 = 0 then
    j63_7 ()
    else
    j59_4 ()))))
    else
    j63_7 ()))
    else
    j59_4 ()))
def g_X10_areWorksAt (u : MS) (p0 : Int32) (p1 : Int32) : Option (Int32) :=
    lp_X10_areWorksAt_5 u p0 p1 (fun (x3_5 : Int32)  => g_bo x3_5 (some x3_5)) FU (0 : Int32) (0 : Int32)

def lp_X10_isConfirmedAt_4 (u : MS) (p0 : Int32) (k : Int32 → Option (Int32)) : Nat → Int32 → Int32 → Option (Int32)
  | 0, _, _ => none
  | n + 1, x2_4, x3_4 =>
    if (mI_incidents u) ≤ x3_4 then
    k x2_4
    else
    g_let (fun (z0_41 : Int32) => g_let (x3_4 + 1) (fun (v3 : Int32) =>
    lp_X10_isConfirmedAt_4 u p0 k n z0_41 v3)) (fun (j41_2 : Int32 → Option (Int32)) =>
    g_let (fun (_ : Unit) => j41_2 (1 : Int32)) (fun (j36_4 : Unit → Option (Int32)) =>
    if x2_4 = 0 then
    g_in x3_4 12 (
    g_let (fun (_ : Unit) => j41_2 (0 : Int32)) (fun (j40_7 : Unit → Option (Int32)) =>
    if (mI_placed u x3_4.toNatClampNeg) = p0 then
    g_in x3_4 12 (
    if (mI_state u x3_4.toNatClampNeg) = (1 : Int32) then
    j36_4 ()
    else
    j40_7 ())
    else
    j40_7 ()))
    else
    j36_4 ()))
def g_X10_isConfirmedAt (u : MS) (p0 : Int32) : Option (Int32) :=
    lp_X10_isConfirmedAt_4 u p0 (fun (x2_4 : Int32)  => g_bo x2_4 (some x2_4)) FU (0 : Int32) (0 : Int32)

def g_X10_told (u : MS) (p0 : Int32) (p1 : Int32) : Option (Int32) :=
    g_let (((4 : Int32) * p0) + p1) (fun (v1 : Int32) =>
    g_in v1 48 (
    if (mL_ordered u v1.toNatClampNeg) = (-1 : Int32) then
    g_bind (g_X10_areWorksAt u p0 p1) (fun (y4 : Int32) =>
    g_let (fun (z0_58 : Int32) => if z0_58 = 0 then
    some (0 : Int32)
    else
    some (2 : Int32)) (fun (j58_6 : Int32 → Option (Int32)) =>
    g_let (fun (_ : Unit) => j58_6 (1 : Int32)) (fun (j53_8 : Unit → Option (Int32)) =>
    if y4 = 0 then
    g_bind (g_X10_isConfirmedAt u v1) (fun (y10 : Int32) =>
    if y10 = 0 then
    g_let (fun (_ : Unit) => j58_6 (0 : Int32)) (fun (j57_13 : Unit → Option (Int32)) =>
    if p1 = 0 then
    g_in p0 12 (
    if (mH_isOpen u p0.toNatClampNeg) = 0 then
    j53_8 ()
    else
    j57_13 ())
    else
    j57_13 ())
    else
    j53_8 ())
    else
    j53_8 ())))
    else
    g_in v1 48 (
    some (mL_ordered u v1.toNatClampNeg))))

def g_X10_signOf (u : MS) (p0 : Int32) (p1 : Int32) : Option (Int32) :=
    g_bind (g_X10_told u p0 p1) (fun (y1 : Int32) =>
    if y1 = 0 then
    if (11 : Int32) ≤ p0 then
    some y1
    else
    g_bind (g_X10_told u (p0 + (1 : Int32)) p1) (fun (y5 : Int32) =>
    if y5 = (2 : Int32) then
    some (1 : Int32)
    else
    some y1)
    else
    some y1)

def lp_X10_keeps_37 (v2 : Int32) (x2_13 : Int32) (k : MS → Option (MS)) : Nat → Int32 → MS → Option (MS)
  | 0, _, _ => none
  | n + 1, x3_37, w37 =>
    if (4 : Int32) ≤ x3_37 then
    k w37
    else
    g_bind (g_X10_signOf w37 x2_13 x3_37) (fun (y8 : Int32) =>
    g_in (((v2 + ((5 : Int32) * x2_13)) + (1 : Int32)) + x3_37) 3600 (
    g_let (mK_proofs_set w37 (upd (mK_proofs w37) (((v2 + ((5 : Int32) * x2_13)) + (1 : Int32)) + x3_37).toNatClampNeg y8)) (fun (u11 : MS) =>
    g_let (x3_37 + 1) (fun (v12 : Int32) =>
    lp_X10_keeps_37 v2 x2_13 k n v12 u11))))
def lp_X10_keeps_13 (v2 : Int32) (k : MS → Option (MS)) : Nat → Int32 → MS → Option (MS)
  | 0, _, _ => none
  | n + 1, x2_13, w13 =>
    if (12 : Int32) ≤ x2_13 then
    k w13
    else
    g_in x2_13 12 (
    g_in (v2 + ((5 : Int32) * x2_13)) 3600 (
    g_let (mK_proofs_set w13 (upd (mK_proofs w13) (v2 + ((5 : Int32) * x2_13)).toNatClampNeg (mS_speedSign w13 x2_13.toNatClampNeg))) (fun (u6 : MS) =>
    lp_X10_keeps_37 v2 x2_13 (fun (w37 : MS)  => g_let (x2_13 + 1) (fun (v13 : Int32) =>
    lp_X10_keeps_13 v2 k n v13 w37)) FU (0 : Int32) u6)))
def g_X10_keeps (u : MS) : Option (MS) :=
    g_let (m_now u) (fun (v1 : Int32) =>
    g_let ((60 : Int32) * (v1 - v1 / (60 : Int32) * (60 : Int32))) (fun (v2 : Int32) =>
    lp_X10_keeps_13 v2 (fun (w13 : MS)  => some w13) FU (0 : Int32) u))

def lp_X10_patrols_2 (k : MS → Option (MS)) : Nat → Int32 → MS → Option (MS)
  | 0, _, _ => none
  | n + 1, x1_2, w2 =>
    if (3 : Int32) ≤ x1_2 then
    k w2
    else
    g_in x1_2 3 (
    g_let (fun (w91 : MS) => g_let (x1_2 + 1) (fun (v4 : Int32) =>
    lp_X10_patrols_2 k n v4 w91)) (fun (j91_3 : MS → Option (MS)) =>
    if (mP_sentTo w2 x1_2.toNatClampNeg) = (-1 : Int32) then
    j91_3 w2
    else
    g_in x1_2 3 (
    g_in x1_2 3 (
    g_let (mP_left_set w2 (upd (mP_left w2) x1_2.toNatClampNeg ((mP_left w2 x1_2.toNatClampNeg) - (1 : Int32)))) (fun (u8 : MS) =>
    g_in x1_2 3 (
    if (mP_left u8 x1_2.toNatClampNeg) = 0 then
    g_in x1_2 3 (
    g_in (mP_sentTo u8 x1_2.toNatClampNeg) 12 (
    g_let (mI_state_set u8 (upd (mI_state u8) (mP_sentTo u8 x1_2.toNatClampNeg).toNatClampNeg (2 : Int32))) (fun (u13 : MS) =>
    g_in x1_2 3 (
    g_in (mP_sentTo u13 x1_2.toNatClampNeg) 12 (
    g_in (mI_placed u13 (mP_sentTo u13 x1_2.toNatClampNeg).toNatClampNeg) 48 (
    g_let (mT_isStopped_set u13 (upd (mT_isStopped u13) (mI_placed u13 (mP_sentTo u13 x1_2.toNatClampNeg).toNatClampNeg).toNatClampNeg (vp_nar .boolean (0 : Int32)))) (fun (u17 : MS) =>
    g_in x1_2 3 (
    g_in (mP_sentTo u17 x1_2.toNatClampNeg) 12 (
    g_in x1_2 3 (
    g_let (mP_at_set u17 (upd (mP_at u17) x1_2.toNatClampNeg ((mI_placed u17 (mP_sentTo u17 x1_2.toNatClampNeg).toNatClampNeg) / (4 : Int32)))) (fun (u21 : MS) =>
    g_in x1_2 3 (
    g_let (mP_sentTo_set u21 (upd (mP_sentTo u21) x1_2.toNatClampNeg (-1 : Int32))) (fun (u23 : MS) =>
    j91_3 u23)))))))))))))
    else
    j91_3 u8))))))
def g_X10_patrols (u : MS) : Option (MS) :=
    lp_X10_patrols_2 (fun (w2 : MS)  => some w2) FU (0 : Int32) u

def g_X10_letsIn (u : MS) (p0 : Int32) (p1 : Int32) : Option (Int32) :=
    g_bind (g_X10_isIn p1 (0 : Int32) (3 : Int32)) (fun (y1 : Int32) =>
    if y1 = 0 then
    some (0 : Int32)
    else
    g_bind (g_X10_signOf u p0 p1) (fun (y4 : Int32) =>
    if y4 = (2 : Int32) then
    some (0 : Int32)
    else
    g_in (((4 : Int32) * p0) + p1) 48 (
    if (20 : Int32) ≤ (mT_holding u (((4 : Int32) * p0) + p1).toNatClampNeg) then
    some (0 : Int32)
    else
    some (1 : Int32))))

def g_X10_goesTo (u : MS) (p0 : Int32) (p1 : Int32) : Option (Int32) :=
    g_bind (g_X10_signOf u p0 p1) (fun (y1 : Int32) =>
    g_let (fun (z0_14 : Int32) => g_let (p0 + (1 : Int32)) (fun (v4 : Int32) =>
    g_let (fun (_ : Unit) => g_bind (g_X10_letsIn u v4 (p1 - (1 : Int32))) (fun (y6 : Int32) =>
    if y6 = 0 then
    g_bind (g_X10_letsIn u v4 (p1 + (1 : Int32))) (fun (y9 : Int32) =>
    if y9 = 0 then
    if z0_14 = 0 then
    g_bind (g_X10_letsIn u v4 p1) (fun (y13 : Int32) =>
    if y13 = 0 then
    some (-1 : Int32)
    else
    some p1)
    else
    some (-1 : Int32)
    else
    some (p1 + (1 : Int32)))
    else
    some (p1 - (1 : Int32)))) (fun (j36_5 : Unit → Option (Int32)) =>
    if z0_14 = 0 then
    j36_5 ()
    else
    g_bind (g_X10_letsIn u v4 p1) (fun (y17 : Int32) =>
    if y17 = 0 then
    j36_5 ()
    else
    some p1)))) (fun (j14_3 : Int32 → Option (Int32)) =>
    if y1 = 0 then
    j14_3 (1 : Int32)
    else
    j14_3 (0 : Int32)))

def lp_X10_goes_43 (p0 : Int32) (p1 : Int32) (v1 : Int32) (z0_35 : Int32) (k : MS → Option (MS)) : Nat → Int32 → Int32 → MS → Option (MS)
  | 0, _, _, _ => none
  | n + 1, x5_43, x6_43, w43 =>
    if z0_35 ≤ x6_43 then
    k w43
    else
    if x5_43 = 0 then
    k w43
    else
    g_in v1 48 (
    if (mT_holding w43 v1.toNatClampNeg) ≤ 0 then
    k w43
    else
    g_let (fun (z0_80 : Int32) => g_let (fun (z0_93 : Int32) => g_let (fun (w146 : MS) => g_let (x6_43 + 1) (fun (v11 : Int32) =>
    lp_X10_goes_43 p0 p1 v1 z0_35 k n z0_93 v11 w146)) (fun (j146_10 : MS → Option (MS)) =>
    if z0_93 = 0 then
    j146_10 w43
    else
    g_in v1 48 (
    g_in v1 48 (
    g_let (mT_holding_set w43 (upd (mT_holding w43) v1.toNatClampNeg ((mT_holding w43 v1.toNatClampNeg) - (1 : Int32)))) (fun (u15 : MS) =>
    if p0 = (11 : Int32) then
    g_let (mT_gone_set u15 ((mT_gone u15) + (1 : Int32))) (fun (u20 : MS) =>
    j146_10 u20)
    else
    g_in ((((4 : Int32) * p0) + (4 : Int32)) + z0_80) 48 (
    g_in ((((4 : Int32) * p0) + (4 : Int32)) + z0_80) 48 (
    g_let (mT_holding_set u15 (upd (mT_holding u15) ((((4 : Int32) * p0) + (4 : Int32)) + z0_80).toNatClampNeg ((mT_holding u15 ((((4 : Int32) * p0) + (4 : Int32)) + z0_80).toNatClampNeg) + (1 : Int32)))) (fun (u19 : MS) =>
    j146_10 u19)))))))) (fun (j93_9 : Int32 → Option (MS)) =>
    if z0_80 = (-1 : Int32) then
    j93_9 (0 : Int32)
    else
    j93_9 (1 : Int32))) (fun (j80_8 : Int32 → Option (MS)) =>
    if p0 = (11 : Int32) then
    j80_8 p1
    else
    g_bind (g_X10_goesTo w43 p0 p1) (fun (y23 : Int32) =>
    j80_8 y23)))
def g_X10_goes (u : MS) (p0 : Int32) (p1 : Int32) : Option (MS) :=
    g_let (((4 : Int32) * p0) + p1) (fun (v1 : Int32) =>
    g_in v1 48 (
    g_let (fun (z0_35 : Int32) => lp_X10_goes_43 p0 p1 v1 z0_35 (fun (w43 : MS)  => some w43) FU (1 : Int32) (0 : Int32) u) (fun (j35_3 : Int32 → Option (MS)) =>
    if (mT_isStopped u v1.toNatClampNeg) = 0 then
    g_in p0 12 (
    if (mT_isBroken u p0.toNatClampNeg) = 0 then
    j35_3 (8 : Int32)
    else
    j35_3 (6 : Int32))
    else
    j35_3 (0 : Int32))))

def lp_X10_comes_43 (w28 : MS) (k : Int32 → Option (MS)) : Nat → Int32 → Int32 → Option (MS)
  | 0, _, _ => none
  | n + 1, x2_43, x3_43 =>
    if (4 : Int32) ≤ x3_43 then
    k x2_43
    else
    g_bind (g_X10_letsIn w28 (0 : Int32) x3_43) (fun (y6 : Int32) =>
    g_let (fun (z0_82 : Int32) => g_let (x3_43 + 1) (fun (v9 : Int32) =>
    lp_X10_comes_43 w28 k n z0_82 v9)) (fun (j82_8 : Int32 → Option (MS)) =>
    g_let (fun (_ : Unit) => j82_8 x2_43) (fun (j81_10 : Unit → Option (MS)) =>
    if y6 = 0 then
    j81_10 ()
    else
    g_let (fun (_ : Unit) => j82_8 x3_43) (fun (j77_12 : Unit → Option (MS)) =>
    if x2_43 = (-1 : Int32) then
    j77_12 ()
    else
    g_in x3_43 48 (
    g_in x2_43 48 (
    if (mT_holding w28 x2_43.toNatClampNeg) ≤ (mT_holding w28 x3_43.toNatClampNeg) then
    j81_10 ()
    else
    j77_12 ()))))))
def lp_X10_comes_28 (k : MS → Option (MS)) : Nat → Int32 → MS → Option (MS)
  | 0, _, _ => none
  | n + 1, x1_28, w28 =>
    if (mT_waiting w28) ≤ 0 then
    k w28
    else
    if x1_28 = 0 then
    k w28
    else
    lp_X10_comes_43 w28 (fun (x2_43 : Int32)  => g_let (fun (z0_99 : Int32) => g_let (fun (w124 : MS) => lp_X10_comes_28 k n z0_99 w124) (fun (j124_18 : MS → Option (MS)) =>
    if z0_99 = 0 then
    j124_18 w28
    else
    g_in x2_43 48 (
    g_in x2_43 48 (
    g_let (mT_holding_set w28 (upd (mT_holding w28) x2_43.toNatClampNeg ((mT_holding w28 x2_43.toNatClampNeg) + (1 : Int32)))) (fun (u22 : MS) =>
    g_let (mT_waiting_set u22 ((mT_waiting u22) - (1 : Int32))) (fun (u23 : MS) =>
    j124_18 u23)))))) (fun (j99_17 : Int32 → Option (MS)) =>
    if x2_43 = (-1 : Int32) then
    j99_17 (0 : Int32)
    else
    j99_17 (1 : Int32))) FU (-1 : Int32) (0 : Int32)
def g_X10_comes (u : MS) : Option (MS) :=
    g_let (mT_came_set u ((mT_came u) + (mT_demand u))) (fun (u1 : MS) =>
    g_let (mT_waiting_set u1 ((mT_waiting u1) + (mT_demand u1))) (fun (u2 : MS) =>
    lp_X10_comes_28 (fun (w28 : MS)  => some w28) FU (1 : Int32) u2))

def lp_X10_mostOf_4 (u : MS) (p0 : Int32) (k : Int32 → Option (Int32)) : Nat → Int32 → Int32 → Option (Int32)
  | 0, _, _ => none
  | n + 1, x2_4, x3_4 =>
    if (4 : Int32) ≤ x3_4 then
    k x2_4
    else
    g_in (((4 : Int32) * p0) + x3_4) 48 (
    g_let (mT_holding u (((4 : Int32) * p0) + x3_4).toNatClampNeg) (fun (v3 : Int32) =>
    g_let (fun (z0_33 : Int32) => g_let (x3_4 + 1) (fun (v5 : Int32) =>
    lp_X10_mostOf_4 u p0 k n z0_33 v5)) (fun (j33_4 : Int32 → Option (Int32)) =>
    if v3 ≤ x2_4 then
    j33_4 x2_4
    else
    j33_4 v3)))
def g_X10_mostOf (u : MS) (p0 : Int32) : Option (Int32) :=
    lp_X10_mostOf_4 u p0 (fun (x2_4 : Int32)  => some x2_4) FU (0 : Int32) (0 : Int32)

def g_X10_speedOf (u : MS) (p0 : Int32) : Option (Int32) :=
    g_bind (g_X10_mostOf u p0) (fun (y1 : Int32) =>
    some ((120 : Int32) - ((5 : Int32) * y1)))

def g_X10_guessOf (u : MS) (p0 : Int32) : Option (Int32) :=
    g_let (fun (z0_20 : Int32) => g_let (fun (z0_43 : Int32) => g_let (fun (_ : Unit) => g_let (fun (z0_69 : Int32) => g_let (fun (z0_84 : Int32) => g_let (z0_69 + z0_84) (fun (v6 : Int32) =>
    if z0_20 = 0 then
    some v6
    else
    if z0_43 = 0 then
    some v6
    else
    some (v6 / (2 : Int32)))) (fun (j84_5 : Int32 → Option (Int32)) =>
    if z0_43 = 0 then
    j84_5 (0 : Int32)
    else
    g_bind (g_X10_speedOf u (p0 + (1 : Int32))) (fun (y10 : Int32) =>
    j84_5 y10))) (fun (j69_4 : Int32 → Option (Int32)) =>
    if z0_20 = 0 then
    j69_4 (0 : Int32)
    else
    g_bind (g_X10_speedOf u (p0 - (1 : Int32))) (fun (y13 : Int32) =>
    j69_4 y13))) (fun (j54_3 : Unit → Option (Int32)) =>
    if z0_20 = 0 then
    if z0_43 = 0 then
    some (-1 : Int32)
    else
    j54_3 ()
    else
    j54_3 ())) (fun (j43_2 : Int32 → Option (Int32)) =>
    g_let (fun (_ : Unit) => j43_2 (0 : Int32)) (fun (j42_17 : Unit → Option (Int32)) =>
    if (11 : Int32) ≤ p0 then
    j42_17 ()
    else
    g_in (p0 + (1 : Int32)) 12 (
    if (mD_detects u (p0 + (1 : Int32)).toNatClampNeg) = 0 then
    j43_2 (1 : Int32)
    else
    j42_17 ())))) (fun (j20_1 : Int32 → Option (Int32)) =>
    g_let (fun (_ : Unit) => j20_1 (0 : Int32)) (fun (j19_21 : Unit → Option (Int32)) =>
    if p0 ≤ 0 then
    j19_21 ()
    else
    g_in (p0 - (1 : Int32)) 12 (
    if (mD_detects u (p0 - (1 : Int32)).toNatClampNeg) = 0 then
    j20_1 (1 : Int32)
    else
    j19_21 ())))

def g_X10_beliefOf (u : MS) (p0 : Int32) : Option (Int32) :=
    g_in p0 12 (
    if (mD_detects u p0.toNatClampNeg) = 0 then
    g_bind (g_X10_speedOf u p0) (fun (y16 : Int32) =>
    some y16)
    else
    g_bind (g_X10_guessOf u p0) (fun (y3 : Int32) =>
    g_in p0 12 (
    if (mD_detects u p0.toNatClampNeg) = (2 : Int32) then
    some y3
    else
    g_in p0 12 (
    g_let (fun (z0_62 : Int32) => if y3 = (-1 : Int32) then
    g_in p0 12 (
    some (mD_stuckAt u p0.toNatClampNeg))
    else
    if z0_62 ≤ (30 : Int32) then
    g_in p0 12 (
    some (mD_stuckAt u p0.toNatClampNeg))
    else
    some y3) (fun (j62_8 : Int32 → Option (Int32)) =>
    if (mD_stuckAt u p0.toNatClampNeg) ≤ y3 then
    g_in p0 12 (
    j62_8 (y3 - (mD_stuckAt u p0.toNatClampNeg)))
    else
    g_in p0 12 (
    j62_8 ((mD_stuckAt u p0.toNatClampNeg) - y3)))))))

def g_X10_wantOf (u : MS) (p0 : Int32) : Option (Int32) :=
    g_in p0 12 (
    if (mS_limited u p0.toNatClampNeg) = (-1 : Int32) then
    g_bind (g_X10_beliefOf u p0) (fun (y3 : Int32) =>
    g_let (fun (z0_68 : Int32) => g_let (fun (z0_109 : Int32) => if z0_109 ≤ z0_68 then
    some z0_109
    else
    some z0_68) (fun (j109_6 : Int32 → Option (Int32)) =>
    if (mS_weather u) = 0 then
    j109_6 (120 : Int32)
    else
    if (mS_weather u) = (1 : Int32) then
    j109_6 (80 : Int32)
    else
    if (mS_weather u) = (2 : Int32) then
    j109_6 (60 : Int32)
    else
    j109_6 (40 : Int32))) (fun (j68_5 : Int32 → Option (Int32)) =>
    if y3 = (-1 : Int32) then
    j68_5 (60 : Int32)
    else
    if (40 : Int32) ≤ y3 then
    if (60 : Int32) ≤ y3 then
    if (80 : Int32) ≤ y3 then
    j68_5 (120 : Int32)
    else
    j68_5 (80 : Int32)
    else
    j68_5 (60 : Int32)
    else
    j68_5 (40 : Int32)))
    else
    g_in p0 12 (
    some (mS_limited u p0.toNatClampNeg)))

def lp_X10_setsSpeeds_3 (k : MS → Option (MS)) : Nat → Int32 → MS → Option (MS)
  | 0, _, _ => none
  | n + 1, x1_3, w3 =>
    if x1_3 < 0 then
    k w3
    else
    g_in x1_3 12 (
    g_let (mS_speedSign w3 x1_3.toNatClampNeg) (fun (v3 : Int32) =>
    g_bind (g_X10_wantOf w3 x1_3) (fun (y4 : Int32) =>
    g_in x1_3 12 (
    g_let (fun (z0_55 : Int32) => g_let (fun (z0_67 : Int32) => g_let (fun (z0_91 : Int32) => g_let (fun (z0_112 : Int32) => g_in x1_3 12 (
    g_let (mS_speedSign_set w3 (upd (mS_speedSign w3) x1_3.toNatClampNeg z0_112)) (fun (u12 : MS) =>
    g_in x1_3 12 (
    g_let (fun (z0_141 : Int32) => g_in x1_3 12 (
    g_let (mS_lowered_set u12 (upd (mS_lowered u12) x1_3.toNatClampNeg z0_141)) (fun (u16 : MS) =>
    g_let (x1_3 + (-1)) (fun (v17 : Int32) =>
    lp_X10_setsSpeeds_3 k n v17 u16)))) (fun (j141_14 : Int32 → Option (MS)) =>
    if v3 ≤ (mS_speedSign u12 x1_3.toNatClampNeg) then
    g_in x1_3 12 (
    j141_14 (mS_lowered u12 x1_3.toNatClampNeg))
    else
    j141_14 (m_now u12)))))) (fun (j112_10 : Int32 → Option (MS)) =>
    if z0_91 ≤ z0_67 then
    j112_10 z0_91
    else
    j112_10 z0_67)) (fun (j91_9 : Int32 → Option (MS)) =>
    if (11 : Int32) ≤ x1_3 then
    j91_9 (120 : Int32)
    else
    g_in (x1_3 + (1 : Int32)) 12 (
    j91_9 ((mS_speedSign w3 (x1_3 + (1 : Int32)).toNatClampNeg) + (20 : Int32))))) (fun (j67_8 : Int32 → Option (MS)) =>
    if z0_55 = 0 then
    j67_8 y4
    else
    j67_8 v3)) (fun (j55_7 : Int32 → Option (MS)) =>
    g_let (fun (_ : Unit) => j55_7 (0 : Int32)) (fun (j54_24 : Unit → Option (MS)) =>
    if (mS_limited w3 x1_3.toNatClampNeg) = (-1 : Int32) then
    if y4 ≤ v3 then
    j54_24 ()
    else
    g_in x1_3 12 (
    if (3 : Int32) ≤ ((m_now w3) - (mS_lowered w3 x1_3.toNatClampNeg)) then
    j54_24 ()
    else
    j55_7 (1 : Int32))
    else
    j54_24 ()))))))
def g_X10_setsSpeeds (u : MS) : Option (MS) :=
    lp_X10_setsSpeeds_3 (fun (w3 : MS)  => some w3) FU (11 : Int32) u

def lp_X10_minute_23 (x1_17 : Int32) (k : MS → Option (MS)) : Nat → Int32 → MS → Option (MS)
  | 0, _, _ => none
  | n + 1, x2_23, w23 =>
    if (4 : Int32) ≤ x2_23 then
    k w23
    else
    g_bind (g_X10_goes w23 x1_17 x2_23) (fun (y6 : MS) =>
    g_let (x2_23 + 1) (fun (v8 : Int32) =>
    lp_X10_minute_23 x1_17 k n v8 y6))
def lp_X10_minute_17 (k : MS → Option (MS)) : Nat → Int32 → MS → Option (MS)
  | 0, _, _ => none
  | n + 1, x1_17, w17 =>
    if x1_17 < 0 then
    k w17
    else
    lp_X10_minute_23 x1_17 (fun (w23 : MS)  => g_let (x1_17 + (-1)) (fun (v9 : Int32) =>
    lp_X10_minute_17 k n v9 w23)) FU (0 : Int32) w17
def lp_X10_minute_52 (k : MS → Option (MS)) : Nat → Int32 → MS → Option (MS)
  | 0, _, _ => none
  | n + 1, x1_52, w52 =>
    if (12 : Int32) ≤ x1_52 then
    k w52
    else
    g_bind (g_X10_mostOf w52 x1_52) (fun (y13 : Int32) =>
    g_let (fun (z0_95 : Int32) => g_in x1_52 12 (
    g_let (mT_isBroken_set w52 (upd (mT_isBroken w52) x1_52.toNatClampNeg (vp_nar .boolean z0_95))) (fun (u17 : MS) =>
    g_let (x1_52 + 1) (fun (v18 : Int32) =>
    lp_X10_minute_52 k n v18 u17)))) (fun (j95_15 : Int32 → Option (MS)) =>
    g_let (fun (_ : Unit) => j95_15 (1 : Int32)) (fun (j90_19 : Unit → Option (MS)) =>
    if (15 : Int32) ≤ y13 then
    j90_19 ()
    else
    g_in x1_52 12 (
    g_let (fun (_ : Unit) => j95_15 (0 : Int32)) (fun (j94_22 : Unit → Option (MS)) =>
    if (mT_isBroken w52 x1_52.toNatClampNeg) = 0 then
    j94_22 ()
    else
    if y13 < (8 : Int32) then
    j94_22 ()
    else
    j90_19 ())))))
def g_X10_minute (u : MS) : Option (MS) :=
    g_let (m_now_set u ((m_now u) + (1 : Int32))) (fun (u1 : MS) =>
    g_bind (g_X10_patrols u1) (fun (y2 : MS) =>
    lp_X10_minute_17 (fun (w17 : MS)  => g_bind (g_X10_comes w17) (fun (y10 : MS) =>
    lp_X10_minute_52 (fun (w52 : MS)  => g_bind (g_X10_setsSpeeds w52) (fun (y25 : MS) =>
    g_bind (g_X10_keeps y25) (fun (y27 : MS) =>
    some y27))) FU (0 : Int32) y10)) FU (11 : Int32) y2))

def g_X10_demand (u : MS) (p0 : Int32) : Option (Int32 × MS) :=
    g_bind (g_X10_isIn p0 (0 : Int32) (40 : Int32)) (fun (y1 : Int32) =>
    g_let (fun (z0_16 : Int32) => g_bind (g_X10_holds u z0_16) (fun (y4 : Int32 × MS) =>
    if y4.1 = 0 then
    some ((0 : Int32), y4.2)
    else
    g_let (mT_demand y4.2) (fun (v7 : Int32) =>
    g_let (mT_demand_set y4.2 p0) (fun (u8 : MS) =>
    some (v7, u8))))) (fun (j16_3 : Int32 → Option (Int32 × MS)) =>
    if y1 = 0 then
    j16_3 (1 : Int32)
    else
    j16_3 (0 : Int32)))

def lp_X10_pass_42 (p0 : Int32) (k : MS → Option (Int32 × MS)) : Nat → Int32 → MS → Option (Int32 × MS)
  | 0, _, _ => none
  | n + 1, x2_42, w42 =>
    if p0 ≤ x2_42 then
    k w42
    else
    g_bind (g_X10_minute w42) (fun (y8 : MS) =>
    g_let (x2_42 + 1) (fun (v10 : Int32) =>
    lp_X10_pass_42 p0 k n v10 y8))
def g_X10_pass (u : MS) (p0 : Int32) : Option (Int32 × MS) :=
    g_bind (g_X10_isIn p0 (1 : Int32) (60 : Int32)) (fun (y1 : Int32) =>
    g_let (fun (z0_32 : Int32) => g_bind (g_X10_holds u z0_32) (fun (y4 : Int32 × MS) =>
    if y4.1 = 0 then
    some ((0 : Int32), y4.2)
    else
    lp_X10_pass_42 p0 (fun (w42 : MS)  => some ((m_now w42), w42)) FU (0 : Int32) y4.2)) (fun (j32_3 : Int32 → Option (Int32 × MS)) =>
    if y1 = 0 then
    j32_3 (1 : Int32)
    else
    if ((m_now u) + p0) ≤ (600 : Int32) then
    j32_3 (0 : Int32)
    else
    j32_3 (2 : Int32)))

def g_X10_holds_ (u : MS) (p0 : Int32) (p1 : Int32) : Option (Int32 × MS) :=
    g_bind (g_X10_isPlace p0 p1) (fun (y1 : Int32) =>
    g_let (fun (z0_14 : Int32) => g_bind (g_X10_holds u z0_14) (fun (y4 : Int32 × MS) =>
    if y4.1 = 0 then
    some ((0 : Int32), y4.2)
    else
    g_in (((4 : Int32) * p0) + p1) 48 (
    some ((mT_holding y4.2 (((4 : Int32) * p0) + p1).toNatClampNeg), y4.2)))) (fun (j14_3 : Int32 → Option (Int32 × MS)) =>
    if y1 = 0 then
    j14_3 (1 : Int32)
    else
    j14_3 (0 : Int32)))

def lp_X10_vehicles_27 (y4 : Int32 × MS) (k : Int32 → Option (Int32 × MS)) : Nat → Int32 → Int32 → Option (Int32 × MS)
  | 0, _, _ => none
  | n + 1, x2_27, x3_27 =>
    if (48 : Int32) ≤ x3_27 then
    k x2_27
    else
    g_in x3_27 48 (
    g_let (x2_27 + (mT_holding y4.2 x3_27.toNatClampNeg)) (fun (v9 : Int32) =>
    g_let (x3_27 + 1) (fun (v10 : Int32) =>
    lp_X10_vehicles_27 y4 k n v9 v10)))
def g_X10_vehicles (u : MS) (p0 : Int32) : Option (Int32 × MS) :=
    g_bind (g_X10_isIn p0 (0 : Int32) (3 : Int32)) (fun (y1 : Int32) =>
    g_let (fun (z0_15 : Int32) => g_bind (g_X10_holds u z0_15) (fun (y4 : Int32 × MS) =>
    if y4.1 = 0 then
    some ((0 : Int32), y4.2)
    else
    lp_X10_vehicles_27 y4 (fun (x2_27 : Int32)  => if p0 = 0 then
    some ((mT_came y4.2), y4.2)
    else
    if p0 = (1 : Int32) then
    some (x2_27, y4.2)
    else
    if p0 = (2 : Int32) then
    some ((mT_waiting y4.2), y4.2)
    else
    some ((mT_gone y4.2), y4.2)) FU (0 : Int32) (0 : Int32))) (fun (j15_3 : Int32 → Option (Int32 × MS)) =>
    if y1 = 0 then
    j15_3 (1 : Int32)
    else
    j15_3 (0 : Int32)))

def g_X10_section (u : MS) (p0 : Int32) (p1 : Int32) : Option (Int32 × MS) :=
    g_bind (g_X10_isSection p0) (fun (y1 : Int32) =>
    g_let (fun (z0_26 : Int32) => g_bind (g_X10_holds u z0_26) (fun (y4 : Int32 × MS) =>
    if y4.1 = 0 then
    some ((0 : Int32), y4.2)
    else
    if (3 : Int32) ≤ p1 then
    if p1 = (3 : Int32) then
    g_in p0 12 (
    some ((mS_speedSign y4.2 p0.toNatClampNeg), y4.2))
    else
    if p1 = (5 : Int32) then
    g_in p0 12 (
    some ((mD_detects y4.2 p0.toNatClampNeg), y4.2))
    else
    g_in p0 12 (
    if (mT_isBroken y4.2 p0.toNatClampNeg) = 0 then
    some ((0 : Int32), y4.2)
    else
    some ((1 : Int32), y4.2))
    else
    if p1 = 0 then
    g_bind (g_X10_speedOf y4.2 p0) (fun (y20 : Int32) =>
    some (y20, y4.2))
    else
    if p1 = (1 : Int32) then
    g_bind (g_X10_beliefOf y4.2 p0) (fun (y18 : Int32) =>
    some (y18, y4.2))
    else
    g_bind (g_X10_guessOf y4.2 p0) (fun (y16 : Int32) =>
    some (y16, y4.2)))) (fun (j26_3 : Int32 → Option (Int32 × MS)) =>
    if y1 = 0 then
    j26_3 (1 : Int32)
    else
    g_bind (g_X10_isIn p1 (0 : Int32) (5 : Int32)) (fun (y23 : Int32) =>
    if y23 = 0 then
    j26_3 (2 : Int32)
    else
    j26_3 (0 : Int32))))

def g_X10_detector (u : MS) (p0 : Int32) (p1 : Int32) (p2 : Int32) : Option (Int32 × MS) :=
    g_bind (g_X10_isIn p1 (0 : Int32) (2 : Int32)) (fun (y1 : Int32) =>
    g_let (fun (z0_29 : Int32) => g_bind (g_X10_isSection p0) (fun (y4 : Int32) =>
    g_let (fun (z0_53 : Int32) => g_bind (g_X10_holds u z0_53) (fun (y7 : Int32 × MS) =>
    if y7.1 = 0 then
    some ((0 : Int32), y7.2)
    else
    g_in p0 12 (
    g_let (mD_detects y7.2 p0.toNatClampNeg) (fun (v11 : Int32) =>
    g_in p0 12 (
    g_let (mD_detects_set y7.2 (upd (mD_detects y7.2) p0.toNatClampNeg p1)) (fun (u13 : MS) =>
    g_in p0 12 (
    g_let (mD_stuckAt_set u13 (upd (mD_stuckAt u13) p0.toNatClampNeg p2)) (fun (u15 : MS) =>
    some (v11, u15))))))))) (fun (j53_6 : Int32 → Option (Int32 × MS)) =>
    if y4 = 0 then
    j53_6 (1 : Int32)
    else
    if z0_29 = 0 then
    j53_6 (2 : Int32)
    else
    j53_6 (0 : Int32)))) (fun (j29_3 : Int32 → Option (Int32 × MS)) =>
    g_let (fun (_ : Unit) => j29_3 (0 : Int32)) (fun (j28_18 : Unit → Option (Int32 × MS)) =>
    if y1 = 0 then
    j28_18 ()
    else
    g_let (fun (_ : Unit) => j29_3 (1 : Int32)) (fun (j24_20 : Unit → Option (Int32 × MS)) =>
    if p1 = (1 : Int32) then
    g_bind (g_X10_isIn p2 (0 : Int32) (120 : Int32)) (fun (y22 : Int32) =>
    if y22 = 0 then
    j28_18 ()
    else
    j24_20 ())
    else
    j24_20 ()))))

def g_X10_weather (u : MS) (p0 : Int32) : Option (Int32 × MS) :=
    g_bind (g_X10_isIn p0 (0 : Int32) (3 : Int32)) (fun (y1 : Int32) =>
    g_let (fun (z0_15 : Int32) => g_bind (g_X10_holds u z0_15) (fun (y4 : Int32 × MS) =>
    if y4.1 = 0 then
    some ((0 : Int32), y4.2)
    else
    g_let (mS_weather y4.2) (fun (v7 : Int32) =>
    g_let (mS_weather_set y4.2 p0) (fun (u8 : MS) =>
    some (v7, u8))))) (fun (j15_3 : Int32 → Option (Int32 × MS)) =>
    if y1 = 0 then
    j15_3 (1 : Int32)
    else
    j15_3 (0 : Int32)))

def g_X10_limit (u : MS) (p0 : Int32) (p1 : Int32) : Option (Int32 × MS) :=
    g_let (fun (z0_28 : Int32) => g_bind (g_X10_isSection p0) (fun (y2 : Int32) =>
    g_let (fun (z0_50 : Int32) => g_bind (g_X10_holds u z0_50) (fun (y5 : Int32 × MS) =>
    if y5.1 = 0 then
    some ((0 : Int32), y5.2)
    else
    g_in p0 12 (
    g_let (mS_limited y5.2 p0.toNatClampNeg) (fun (v9 : Int32) =>
    g_in p0 12 (
    g_let (mS_limited_set y5.2 (upd (mS_limited y5.2) p0.toNatClampNeg p1)) (fun (u11 : MS) =>
    some (v9, u11))))))) (fun (j50_4 : Int32 → Option (Int32 × MS)) =>
    if y2 = 0 then
    j50_4 (1 : Int32)
    else
    if z0_28 = 0 then
    j50_4 (2 : Int32)
    else
    j50_4 (0 : Int32)))) (fun (j28_1 : Int32 → Option (Int32 × MS)) =>
    g_let (fun (_ : Unit) => j28_1 (1 : Int32)) (fun (j23_14 : Unit → Option (Int32 × MS)) =>
    if p1 = (-1 : Int32) then
    j23_14 ()
    else
    g_bind (g_X10_isIn p1 (40 : Int32) (120 : Int32)) (fun (y16 : Int32) =>
    g_let (fun (_ : Unit) => j28_1 (0 : Int32)) (fun (j27_18 : Unit → Option (Int32 × MS)) =>
    if y16 = 0 then
    j27_18 ()
    else
    if (p1 - p1 / (20 : Int32) * (20 : Int32)) = 0 then
    j23_14 ()
    else
    j27_18 ()))))

def g_X10_order (u : MS) (p0 : Int32) (p1 : Int32) (p2 : Int32) : Option (Int32 × MS) :=
    g_bind (g_X10_isPlace p0 p1) (fun (y1 : Int32) =>
    g_let (fun (z0_40 : Int32) => g_bind (g_X10_holds u z0_40) (fun (y4 : Int32 × MS) =>
    if y4.1 = 0 then
    some ((0 : Int32), y4.2)
    else
    g_let (((4 : Int32) * p0) + p1) (fun (v7 : Int32) =>
    g_in v7 48 (
    g_let (mL_ordered y4.2 v7.toNatClampNeg) (fun (v9 : Int32) =>
    g_in v7 48 (
    g_let (mL_ordered_set y4.2 (upd (mL_ordered y4.2) v7.toNatClampNeg p2)) (fun (u11 : MS) =>
    some (v9, u11)))))))) (fun (j40_3 : Int32 → Option (Int32 × MS)) =>
    if y1 = 0 then
    j40_3 (1 : Int32)
    else
    g_bind (g_X10_isIn p2 (-1 : Int32) (2 : Int32)) (fun (y13 : Int32) =>
    if y13 = 0 then
    j40_3 (2 : Int32)
    else
    g_let (fun (_ : Unit) => j40_3 (0 : Int32)) (fun (j39_16 : Unit → Option (Int32 × MS)) =>
    if p2 = (2 : Int32) then
    if p0 = 0 then
    j40_3 (3 : Int32)
    else
    j39_16 ()
    else
    j39_16 ()))))

def g_X10_sign (u : MS) (p0 : Int32) (p1 : Int32) : Option (Int32 × MS) :=
    g_bind (g_X10_isPlace p0 p1) (fun (y1 : Int32) =>
    g_let (fun (z0_14 : Int32) => g_bind (g_X10_holds u z0_14) (fun (y4 : Int32 × MS) =>
    if y4.1 = 0 then
    some ((0 : Int32), y4.2)
    else
    g_bind (g_X10_signOf y4.2 p0 p1) (fun (y7 : Int32) =>
    some (y7, y4.2)))) (fun (j14_3 : Int32 → Option (Int32 × MS)) =>
    if y1 = 0 then
    j14_3 (1 : Int32)
    else
    j14_3 (0 : Int32)))

def lp_X10_isLawful_47 (u1 : MS) (x2_9 : Int32) (k : Int32 → Option (Int32 × MS)) : Nat → Int32 → Int32 → Option (Int32 × MS)
  | 0, _, _ => none
  | n + 1, x1_47, x3_47 =>
    if (4 : Int32) ≤ x3_47 then
    k x1_47
    else
    g_let (fun (z0_82 : Int32) => g_let (x3_47 + 1) (fun (v6 : Int32) =>
    lp_X10_isLawful_47 u1 x2_9 k n z0_82 v6)) (fun (j82_5 : Int32 → Option (Int32 × MS)) =>
    g_let (fun (_ : Unit) => j82_5 (0 : Int32)) (fun (j81_7 : Unit → Option (Int32 × MS)) =>
    if x1_47 = 0 then
    j81_7 ()
    else
    g_bind (g_X10_signOf u1 (x2_9 + (1 : Int32)) x3_47) (fun (y9 : Int32) =>
    g_let (fun (_ : Unit) => j82_5 (1 : Int32)) (fun (j77_11 : Unit → Option (Int32 × MS)) =>
    if y9 = (2 : Int32) then
    g_bind (g_X10_signOf u1 x2_9 x3_47) (fun (y13 : Int32) =>
    if y13 = 0 then
    j81_7 ()
    else
    j77_11 ())
    else
    j77_11 ()))))
def lp_X10_isLawful_9 (u1 : MS) (k : Int32 → Option (Int32 × MS)) : Nat → Int32 → Int32 → Option (Int32 × MS)
  | 0, _, _ => none
  | n + 1, x1_9, x2_9 =>
    if (11 : Int32) ≤ x2_9 then
    k x1_9
    else
    g_let (fun (z0_44 : Int32) => lp_X10_isLawful_47 u1 x2_9 (fun (x1_47 : Int32)  => g_let (x2_9 + 1) (fun (v16 : Int32) =>
    lp_X10_isLawful_9 u1 k n x1_47 v16)) FU z0_44 (0 : Int32)) (fun (j44_3 : Int32 → Option (Int32 × MS)) =>
    g_let (fun (_ : Unit) => j44_3 (0 : Int32)) (fun (j43_17 : Unit → Option (Int32 × MS)) =>
    if x1_9 = 0 then
    j43_17 ()
    else
    g_in x2_9 12 (
    g_in (x2_9 + (1 : Int32)) 12 (
    if ((mS_speedSign u1 (x2_9 + (1 : Int32)).toNatClampNeg) + (20 : Int32)) < (mS_speedSign u1 x2_9.toNatClampNeg) then
    j43_17 ()
    else
    j44_3 (1 : Int32)))))
def g_X10_isLawful (u : MS) : Option (Int32 × MS) :=
    g_let (m_thrown_set u (0 : Int32)) (fun (u1 : MS) =>
    lp_X10_isLawful_9 u1 (fun (x1_9 : Int32)  => g_bo x1_9 (some (x1_9, u1))) FU (1 : Int32) (0 : Int32))

def g_X10_look (u : MS) (p0 : Int32) : Option (Int32 × MS) :=
    g_bind (g_X10_isSection p0) (fun (y1 : Int32) =>
    g_let (fun (z0_13 : Int32) => g_bind (g_X10_holds u z0_13) (fun (y4 : Int32 × MS) =>
    if y4.1 = 0 then
    some ((0 : Int32), y4.2)
    else
    g_in p0 12 (
    g_let (mH_looked_set y4.2 (upd (mH_looked y4.2) p0.toNatClampNeg (m_now y4.2))) (fun (u8 : MS) =>
    g_in ((4 : Int32) * p0) 48 (
    g_let (fun (z0_63 : Int32) => g_in p0 12 (
    g_let (mH_wasClear_set u8 (upd (mH_wasClear u8) p0.toNatClampNeg (vp_nar .boolean z0_63))) (fun (u12 : MS) =>
    g_in p0 12 (
    g_bo (mH_wasClear u12 p0.toNatClampNeg) (some ((mH_wasClear u12 p0.toNatClampNeg), u12)))))) (fun (j63_10 : Int32 → Option (Int32 × MS)) =>
    g_let (fun (_ : Unit) => j63_10 (0 : Int32)) (fun (j62_14 : Unit → Option (Int32 × MS)) =>
    if (mT_isStopped u8 ((4 : Int32) * p0).toNatClampNeg) = 0 then
    g_in ((4 : Int32) * p0) 48 (
    if (mT_holding u8 ((4 : Int32) * p0).toNatClampNeg) = 0 then
    j63_10 (1 : Int32)
    else
    j62_14 ())
    else
    j62_14 ()))))))) (fun (j13_3 : Int32 → Option (Int32 × MS)) =>
    if y1 = 0 then
    j13_3 (1 : Int32)
    else
    j13_3 (0 : Int32)))

def lp_X10_canOpen_5 (u : MS) (p1 : Int32) (k : Int32 → Option (Int32)) : Nat → Int32 → Int32 → Option (Int32)
  | 0, _, _ => none
  | n + 1, x3_5, x4_5 =>
    if p1 < x4_5 then
    k x3_5
    else
    g_let (fun (z0_46 : Int32) => g_let (x4_5 + 1) (fun (v3 : Int32) =>
    lp_X10_canOpen_5 u p1 k n z0_46 v3)) (fun (j46_2 : Int32 → Option (Int32)) =>
    g_let (fun (_ : Unit) => j46_2 (0 : Int32)) (fun (j45_4 : Unit → Option (Int32)) =>
    if x3_5 = 0 then
    j45_4 ()
    else
    g_in x4_5 12 (
    if (5 : Int32) ≤ ((m_now u) - (mH_looked u x4_5.toNatClampNeg)) then
    j45_4 ()
    else
    g_in x4_5 12 (
    if (mH_wasClear u x4_5.toNatClampNeg) = 0 then
    j45_4 ()
    else
    j46_2 (1 : Int32)))))
def g_X10_canOpen (u : MS) (p0 : Int32) (p1 : Int32) : Option (Int32) :=
    lp_X10_canOpen_5 u p1 (fun (x3_5 : Int32)  => g_bo x3_5 (some x3_5)) FU (1 : Int32) p0

def lp_X10_openShoulder_66 (p1 : Int32) (k : Int32 → MS → Option (Int32 × MS)) : Nat → Int32 → Int32 → MS → Option (Int32 × MS)
  | 0, _, _, _ => none
  | n + 1, x4_66, x5_66, w66 =>
    if p1 < x5_66 then
    k x4_66 w66
    else
    g_in x5_66 12 (
    g_let (fun (z0_89 : Int32) => g_let (x4_66 + z0_89) (fun (v11 : Int32) =>
    g_in x5_66 12 (
    g_let (mH_isOpen_set w66 (upd (mH_isOpen w66) x5_66.toNatClampNeg (vp_nar .boolean (1 : Int32)))) (fun (u13 : MS) =>
    g_let (x5_66 + 1) (fun (v14 : Int32) =>
    lp_X10_openShoulder_66 p1 k n v11 v14 u13))))) (fun (j89_10 : Int32 → Option (Int32 × MS)) =>
    if (mH_isOpen w66 x5_66.toNatClampNeg) = 0 then
    j89_10 (1 : Int32)
    else
    j89_10 (0 : Int32)))
def g_X10_openShoulder (u : MS) (p0 : Int32) (p1 : Int32) : Option (Int32 × MS) :=
    g_bind (g_X10_isSection p0) (fun (y1 : Int32) =>
    g_let (fun (z0_19 : Int32) => g_let (fun (z0_52 : Int32) => g_bind (g_X10_holds u z0_52) (fun (y5 : Int32 × MS) =>
    if y5.1 = 0 then
    some ((0 : Int32), y5.2)
    else
    lp_X10_openShoulder_66 p1 (fun (x4_66 : Int32) (w66 : MS)  => some (x4_66, w66)) FU (0 : Int32) p0 y5.2)) (fun (j52_4 : Int32 → Option (Int32 × MS)) =>
    if z0_19 = 0 then
    j52_4 (1 : Int32)
    else
    if p0 ≤ p1 then
    g_bind (g_X10_canOpen u p0 p1) (fun (y18 : Int32) =>
    if y18 = 0 then
    j52_4 (3 : Int32)
    else
    j52_4 (0 : Int32))
    else
    j52_4 (2 : Int32))) (fun (j19_3 : Int32 → Option (Int32 × MS)) =>
    g_let (fun (_ : Unit) => j19_3 (0 : Int32)) (fun (j18_21 : Unit → Option (Int32 × MS)) =>
    if y1 = 0 then
    j18_21 ()
    else
    g_bind (g_X10_isSection p1) (fun (y23 : Int32) =>
    if y23 = 0 then
    j18_21 ()
    else
    j19_3 (1 : Int32)))))

def lp_X10_shuts_4 (k : Int32 → MS → Option (Int32 × MS)) : Nat → Int32 → Int32 → MS → Option (Int32 × MS)
  | 0, _, _, _ => none
  | n + 1, x1_4, x2_4, w4 =>
    if (12 : Int32) ≤ x2_4 then
    k x1_4 w4
    else
    g_in x2_4 12 (
    g_let (fun (z0_25 : Int32) => g_let (x1_4 + z0_25) (fun (v4 : Int32) =>
    g_in x2_4 12 (
    g_let (mH_isOpen_set w4 (upd (mH_isOpen w4) x2_4.toNatClampNeg (vp_nar .boolean (0 : Int32)))) (fun (u6 : MS) =>
    g_let (x2_4 + 1) (fun (v7 : Int32) =>
    lp_X10_shuts_4 k n v4 v7 u6))))) (fun (j25_3 : Int32 → Option (Int32 × MS)) =>
    if (mH_isOpen w4 x2_4.toNatClampNeg) = 0 then
    j25_3 (0 : Int32)
    else
    j25_3 (1 : Int32)))
def g_X10_shuts (u : MS) : Option (Int32 × MS) :=
    lp_X10_shuts_4 (fun (x1_4 : Int32) (w4 : MS)  => some (x1_4, w4)) FU (0 : Int32) (0 : Int32) u

def g_X10_shutShoulder (u : MS) : Option (Int32 × MS) :=
    g_let (m_thrown_set u (0 : Int32)) (fun (u1 : MS) =>
    g_bind (g_X10_shuts u1) (fun (y2 : Int32 × MS) =>
    some (y2.1, y2.2)))

def g_X10_stop (u : MS) (p0 : Int32) (p1 : Int32) : Option (MS) :=
    g_bind (g_X10_isPlace p0 p1) (fun (y1 : Int32) =>
    g_let (fun (z0_33 : Int32) => g_bind (g_X10_holds u z0_33) (fun (y4 : Int32 × MS) =>
    if y4.1 = 0 then
    some y4.2
    else
    g_in (((4 : Int32) * p0) + p1) 48 (
    g_let (mT_isStopped_set y4.2 (upd (mT_isStopped y4.2) (((4 : Int32) * p0) + p1).toNatClampNeg (vp_nar .boolean (1 : Int32)))) (fun (u8 : MS) =>
    if p1 = 0 then
    g_in p0 12 (
    g_let (mH_wasClear_set u8 (upd (mH_wasClear u8) p0.toNatClampNeg (vp_nar .boolean (0 : Int32)))) (fun (u11 : MS) =>
    g_bind (g_X10_shuts u11) (fun (y12 : Int32 × MS) =>
    some y12.2)))
    else
    some u8)))) (fun (j33_3 : Int32 → Option (MS)) =>
    if y1 = 0 then
    j33_3 (1 : Int32)
    else
    g_in (((4 : Int32) * p0) + p1) 48 (
    if (mT_isStopped u (((4 : Int32) * p0) + p1).toNatClampNeg) = 0 then
    j33_3 (0 : Int32)
    else
    j33_3 (2 : Int32))))

def lp_X10_isReportedAt_4 (u : MS) (p0 : Int32) (k : Int32 → Option (Int32)) : Nat → Int32 → Int32 → Option (Int32)
  | 0, _, _ => none
  | n + 1, x2_4, x3_4 =>
    if (mI_incidents u) ≤ x3_4 then
    k x2_4
    else
    g_let (fun (z0_41 : Int32) => g_let (x3_4 + 1) (fun (v3 : Int32) =>
    lp_X10_isReportedAt_4 u p0 k n z0_41 v3)) (fun (j41_2 : Int32 → Option (Int32)) =>
    g_let (fun (_ : Unit) => j41_2 (1 : Int32)) (fun (j36_4 : Unit → Option (Int32)) =>
    if x2_4 = 0 then
    g_in x3_4 12 (
    g_let (fun (_ : Unit) => j41_2 (0 : Int32)) (fun (j40_7 : Unit → Option (Int32)) =>
    if (mI_placed u x3_4.toNatClampNeg) = p0 then
    g_in x3_4 12 (
    if (mI_state u x3_4.toNatClampNeg) = (2 : Int32) then
    j40_7 ()
    else
    j36_4 ())
    else
    j40_7 ()))
    else
    j36_4 ()))
def g_X10_isReportedAt (u : MS) (p0 : Int32) : Option (Int32) :=
    lp_X10_isReportedAt_4 u p0 (fun (x2_4 : Int32)  => g_bo x2_4 (some x2_4)) FU (0 : Int32) (0 : Int32)

def g_X10_report (u : MS) (p0 : Int32) (p1 : Int32) : Option (Int32 × MS) :=
    g_bind (g_X10_isPlace p0 p1) (fun (y1 : Int32) =>
    g_let (((4 : Int32) * p0) + p1) (fun (v3 : Int32) =>
    g_let (fun (z0_53 : Int32) => g_bind (g_X10_holds u z0_53) (fun (y5 : Int32 × MS) =>
    if y5.1 = 0 then
    some ((0 : Int32), y5.2)
    else
    g_in (mI_incidents y5.2) 12 (
    g_let (mI_placed_set y5.2 (upd (mI_placed y5.2) (mI_incidents y5.2).toNatClampNeg v3)) (fun (u9 : MS) =>
    g_in (mI_incidents u9) 12 (
    g_let (mI_state_set u9 (upd (mI_state u9) (mI_incidents u9).toNatClampNeg (0 : Int32))) (fun (u11 : MS) =>
    g_let (mI_incidents_set u11 ((mI_incidents u11) + (1 : Int32))) (fun (u12 : MS) =>
    some (((mI_incidents u12) - (1 : Int32)), u12)))))))) (fun (j53_4 : Int32 → Option (Int32 × MS)) =>
    if y1 = 0 then
    j53_4 (1 : Int32)
    else
    g_let (fun (_ : Unit) => j53_4 (2 : Int32)) (fun (j48_14 : Unit → Option (Int32 × MS)) =>
    if (mI_incidents u) = (12 : Int32) then
    j48_14 ()
    else
    g_let (fun (_ : Unit) => g_bind (g_X10_isReportedAt u v3) (fun (y17 : Int32) =>
    if y17 = 0 then
    j53_4 (0 : Int32)
    else
    j48_14 ())) (fun (j39_16 : Unit → Option (Int32 × MS)) =>
    if p0 = 0 then
    if 0 < p1 then
    j48_14 ()
    else
    j39_16 ()
    else
    j39_16 ())))))

def g_X10_isIncident (u : MS) (p0 : Int32) : Option (Int32) :=
    g_bind (g_X10_isIn p0 (0 : Int32) ((mI_incidents u) - (1 : Int32))) (fun (y1 : Int32) =>
    g_bo y1 (some y1))

def g_X10_confirm (u : MS) (p0 : Int32) : Option (Int32 × MS) :=
    g_bind (g_X10_isIncident u p0) (fun (y1 : Int32) =>
    g_let (fun (z0_29 : Int32) => g_bind (g_X10_holds u z0_29) (fun (y4 : Int32 × MS) =>
    if y4.1 = 0 then
    some ((0 : Int32), y4.2)
    else
    g_in p0 12 (
    g_in (mI_placed y4.2 p0.toNatClampNeg) 48 (
    g_let (fun (z0_61 : Int32) => g_in p0 12 (
    g_let (mI_state_set y4.2 (upd (mI_state y4.2) p0.toNatClampNeg z0_61)) (fun (u11 : MS) =>
    g_in p0 12 (
    some ((mI_state u11 p0.toNatClampNeg), u11))))) (fun (j61_9 : Int32 → Option (Int32 × MS)) =>
    if (mT_isStopped y4.2 (mI_placed y4.2 p0.toNatClampNeg).toNatClampNeg) = 0 then
    j61_9 (2 : Int32)
    else
    j61_9 (1 : Int32)))))) (fun (j29_3 : Int32 → Option (Int32 × MS)) =>
    if y1 = 0 then
    j29_3 (1 : Int32)
    else
    g_in p0 12 (
    if (mI_state u p0.toNatClampNeg) = 0 then
    j29_3 (0 : Int32)
    else
    j29_3 (2 : Int32))))

def lp_X10_patrolOf_4 (u : MS) (p0 : Int32) (k : Int32 → Option (Int32)) : Nat → Int32 → Int32 → Option (Int32)
  | 0, _, _ => none
  | n + 1, x2_4, x3_4 =>
    if (3 : Int32) ≤ x3_4 then
    k x2_4
    else
    g_in x3_4 3 (
    g_let (fun (z0_24 : Int32) => g_let (x3_4 + 1) (fun (v4 : Int32) =>
    lp_X10_patrolOf_4 u p0 k n z0_24 v4)) (fun (j24_3 : Int32 → Option (Int32)) =>
    if (mP_sentTo u x3_4.toNatClampNeg) = p0 then
    j24_3 x3_4
    else
    j24_3 x2_4))
def g_X10_patrolOf (u : MS) (p0 : Int32) : Option (Int32) :=
    lp_X10_patrolOf_4 u p0 (fun (x2_4 : Int32)  => some x2_4) FU (-1 : Int32) (0 : Int32)

def g_X10_incident (u : MS) (p0 : Int32) (p1 : Int32) : Option (Int32 × MS) :=
    g_bind (g_X10_isIncident u p0) (fun (y1 : Int32) =>
    g_let (fun (z0_27 : Int32) => g_bind (g_X10_holds u z0_27) (fun (y4 : Int32 × MS) =>
    if y4.1 = 0 then
    some ((0 : Int32), y4.2)
    else
    g_in p0 12 (
    g_let (mI_placed y4.2 p0.toNatClampNeg) (fun (v8 : Int32) =>
    if p1 = 0 then
    some ((v8 / (4 : Int32)), y4.2)
    else
    if p1 = (1 : Int32) then
    some ((v8 - v8 / (4 : Int32) * (4 : Int32)), y4.2)
    else
    if p1 = (2 : Int32) then
    g_in p0 12 (
    some ((mI_state y4.2 p0.toNatClampNeg), y4.2))
    else
    g_bind (g_X10_patrolOf y4.2 p0) (fun (y12 : Int32) =>
    some (y12, y4.2)))))) (fun (j27_3 : Int32 → Option (Int32 × MS)) =>
    if y1 = 0 then
    j27_3 (1 : Int32)
    else
    g_bind (g_X10_isIn p1 (0 : Int32) (3 : Int32)) (fun (y16 : Int32) =>
    if y16 = 0 then
    j27_3 (2 : Int32)
    else
    j27_3 (0 : Int32))))

def lp_X10_pattern_7 (u1 : MS) (k : Unit → Option (Int32 × MS)) : Nat → Int32 → Option (Int32 × MS)
  | 0, _ => none
  | n + 1, x1_7 =>
    if (11 : Int32) ≤ x1_7 then
    k ()
    else
    g_bind (g_X10_beliefOf u1 x1_7) (fun (y3 : Int32) =>
    g_bind (g_X10_isIn y3 (0 : Int32) (39 : Int32)) (fun (y5 : Int32) =>
    g_let (fun (_ : Unit) => g_let (x1_7 + 1) (fun (v8 : Int32) =>
    lp_X10_pattern_7 u1 k n v8)) (fun (j41_7 : Unit → Option (Int32 × MS)) =>
    if y5 = 0 then
    j41_7 ()
    else
    g_bind (g_X10_beliefOf u1 (x1_7 + (1 : Int32))) (fun (y10 : Int32) =>
    if y10 < (80 : Int32) then
    j41_7 ()
    else
    some (x1_7, u1)))))
def g_X10_pattern (u : MS) : Option (Int32 × MS) :=
    g_let (m_thrown_set u (0 : Int32)) (fun (u1 : MS) =>
    lp_X10_pattern_7 u1 (fun (_ : Unit) => some ((-1 : Int32), u1)) FU (0 : Int32))

def g_X10_isPatrol (p0 : Int32) : Option (Int32) :=
    g_bind (g_X10_isIn p0 (0 : Int32) (2 : Int32)) (fun (y1 : Int32) =>
    g_bo y1 (some y1))

def lp_X10_wayOf_35 (u : MS) (p1 : Int32) (k : Int32 → Option (Int32)) : Nat → Int32 → Int32 → Option (Int32)
  | 0, _, _ => none
  | n + 1, x3_35, x4_35 =>
    if p1 < x4_35 then
    k x3_35
    else
    g_in x4_35 12 (
    g_let (fun (z0_66 : Int32) => g_let (x3_35 + z0_66) (fun (v8 : Int32) =>
    g_let (x4_35 + 1) (fun (v9 : Int32) =>
    lp_X10_wayOf_35 u p1 k n v8 v9))) (fun (j66_7 : Int32 → Option (Int32)) =>
    if (mH_isOpen u x4_35.toNatClampNeg) = 0 then
    j66_7 (1 : Int32)
    else
    g_bind (g_X10_mostOf u x4_35) (fun (y11 : Int32) =>
    j66_7 ((1 : Int32) + (y11 / (5 : Int32))))))
def g_X10_wayOf (u : MS) (p0 : Int32) (p1 : Int32) : Option (Int32) :=
    g_in p0 3 (
    g_let (fun (z0_24 : Int32) => g_in p0 3 (
    g_let ((mP_at u p0.toNatClampNeg) + (1 : Int32)) (fun (v4 : Int32) =>
    lp_X10_wayOf_35 u p1 (fun (x3_35 : Int32)  => some x3_35) FU z0_24 v4))) (fun (j24_2 : Int32 → Option (Int32)) =>
    if (mP_at u p0.toNatClampNeg) ≤ p1 then
    j24_2 (0 : Int32)
    else
    g_in p0 3 (
    j24_2 ((3 : Int32) * ((mP_at u p0.toNatClampNeg) - p1)))))

def g_X10_way (u : MS) (p0 : Int32) (p1 : Int32) : Option (Int32 × MS) :=
    g_bind (g_X10_isPatrol p0) (fun (y1 : Int32) =>
    g_let (fun (z0_20 : Int32) => g_bind (g_X10_holds u z0_20) (fun (y4 : Int32 × MS) =>
    if y4.1 = 0 then
    some ((0 : Int32), y4.2)
    else
    g_bind (g_X10_wayOf y4.2 p0 p1) (fun (y7 : Int32) =>
    some (y7, y4.2)))) (fun (j20_3 : Int32 → Option (Int32 × MS)) =>
    g_let (fun (_ : Unit) => j20_3 (1 : Int32)) (fun (j19_9 : Unit → Option (Int32 × MS)) =>
    if y1 = 0 then
    j19_9 ()
    else
    g_bind (g_X10_isSection p1) (fun (y11 : Int32) =>
    if y11 = 0 then
    j19_9 ()
    else
    j20_3 (0 : Int32)))))

def g_X10_send (u : MS) (p0 : Int32) (p1 : Int32) : Option (Int32 × MS) :=
    g_bind (g_X10_isPatrol p0) (fun (y1 : Int32) =>
    g_let (fun (z0_20 : Int32) => g_let (fun (z0_64 : Int32) => g_bind (g_X10_holds u z0_64) (fun (y5 : Int32 × MS) =>
    if y5.1 = 0 then
    some ((0 : Int32), y5.2)
    else
    g_in p0 3 (
    g_let (mP_sentTo_set y5.2 (upd (mP_sentTo y5.2) p0.toNatClampNeg p1)) (fun (u9 : MS) =>
    g_in p1 12 (
    g_bind (g_X10_wayOf u9 p0 ((mI_placed u9 p1.toNatClampNeg) / (4 : Int32))) (fun (y11 : Int32) =>
    g_in p0 3 (
    g_let (mP_left_set u9 (upd (mP_left u9) p0.toNatClampNeg (y11 + (5 : Int32)))) (fun (u14 : MS) =>
    g_in p0 3 (
    some ((mP_left u14 p0.toNatClampNeg), u14)))))))))) (fun (j64_4 : Int32 → Option (Int32 × MS)) =>
    if z0_20 = 0 then
    j64_4 (1 : Int32)
    else
    g_in p0 3 (
    g_let (fun (_ : Unit) => j64_4 (2 : Int32)) (fun (j59_18 : Unit → Option (Int32 × MS)) =>
    if (mP_sentTo u p0.toNatClampNeg) = (-1 : Int32) then
    g_in p1 12 (
    if (mI_state u p1.toNatClampNeg) = (1 : Int32) then
    g_bind (g_X10_patrolOf u p1) (fun (y22 : Int32) =>
    if y22 = (-1 : Int32) then
    j64_4 (0 : Int32)
    else
    j59_18 ())
    else
    j59_18 ())
    else
    j59_18 ())))) (fun (j20_3 : Int32 → Option (Int32 × MS)) =>
    g_let (fun (_ : Unit) => j20_3 (0 : Int32)) (fun (j19_25 : Unit → Option (Int32 × MS)) =>
    if y1 = 0 then
    j19_25 ()
    else
    g_bind (g_X10_isIncident u p1) (fun (y27 : Int32) =>
    if y27 = 0 then
    j19_25 ()
    else
    j20_3 (1 : Int32)))))

def g_X10_patrol (u : MS) (p0 : Int32) (p1 : Int32) : Option (Int32 × MS) :=
    g_bind (g_X10_isPatrol p0) (fun (y1 : Int32) =>
    g_let (fun (z0_26 : Int32) => g_bind (g_X10_holds u z0_26) (fun (y4 : Int32 × MS) =>
    if y4.1 = 0 then
    some ((0 : Int32), y4.2)
    else
    if p1 = 0 then
    g_in p0 3 (
    some ((mP_at y4.2 p0.toNatClampNeg), y4.2))
    else
    if p1 = (1 : Int32) then
    g_in p0 3 (
    some ((mP_sentTo y4.2 p0.toNatClampNeg), y4.2))
    else
    g_in p0 3 (
    if (mP_sentTo y4.2 p0.toNatClampNeg) = (-1 : Int32) then
    some ((0 : Int32), y4.2)
    else
    g_in p0 3 (
    some ((mP_left y4.2 p0.toNatClampNeg), y4.2))))) (fun (j26_3 : Int32 → Option (Int32 × MS)) =>
    if y1 = 0 then
    j26_3 (1 : Int32)
    else
    g_bind (g_X10_isIn p1 (0 : Int32) (2 : Int32)) (fun (y15 : Int32) =>
    if y15 = 0 then
    j26_3 (2 : Int32)
    else
    j26_3 (0 : Int32))))

def lp_X10_areBooked_6 (u : MS) (p0 : Int32) (p1 : Int32) (p2 : Int32) (k : Int32 → Option (Int32)) : Nat → Int32 → Int32 → Option (Int32)
  | 0, _, _ => none
  | n + 1, x4_6, x5_6 =>
    if (mB_works u) ≤ x5_6 then
    k x4_6
    else
    g_let (fun (z0_79 : Int32) => g_let (x5_6 + 1) (fun (v3 : Int32) =>
    lp_X10_areBooked_6 u p0 p1 p2 k n z0_79 v3)) (fun (j79_2 : Int32 → Option (Int32)) =>
    g_let (fun (_ : Unit) => j79_2 (1 : Int32)) (fun (j74_4 : Unit → Option (Int32)) =>
    if x4_6 = 0 then
    g_in x5_6 8 (
    g_let (fun (_ : Unit) => j79_2 (0 : Int32)) (fun (j78_7 : Unit → Option (Int32)) =>
    if (mB_worksLane u x5_6.toNatClampNeg) = p1 then
    g_in x5_6 8 (
    g_in x5_6 8 (
    g_bind (g_X10_isIn p0 (mB_worksFrom u x5_6.toNatClampNeg) (mB_worksTo u x5_6.toNatClampNeg)) (fun (y11 : Int32) =>
    if y11 = 0 then
    j78_7 ()
    else
    g_in x5_6 8 (
    if p2 < (mB_worksBegin u x5_6.toNatClampNeg) then
    j78_7 ()
    else
    g_in x5_6 8 (
    if (mB_worksEnd u x5_6.toNatClampNeg) ≤ p2 then
    j78_7 ()
    else
    j74_4 ())))))
    else
    j78_7 ()))
    else
    j74_4 ()))
def g_X10_areBooked (u : MS) (p0 : Int32) (p1 : Int32) (p2 : Int32) : Option (Int32) :=
    lp_X10_areBooked_6 u p0 p1 p2 (fun (x4_6 : Int32)  => g_bo x4_6 (some x4_6)) FU (0 : Int32) (0 : Int32)

def lp_X10_areTooMany_45 (u : MS) (p4 : Int32) (z0_10 : Int32) (z0_22 : Int32) (x9_30 : Int32) (k : Int32 → Option (Int32)) : Nat → Int32 → Int32 → Option (Int32)
  | 0, _, _ => none
  | n + 1, x8_45, x10_45 =>
    if p4 ≤ x10_45 then
    k x8_45
    else
    if x8_45 = 0 then
    g_bind (g_X10_areBooked u x9_30 z0_10 x10_45) (fun (y7 : Int32) =>
    g_let (fun (z0_88 : Int32) => g_let (x10_45 + 1) (fun (v10 : Int32) =>
    lp_X10_areTooMany_45 u p4 z0_10 z0_22 x9_30 k n z0_88 v10)) (fun (j88_9 : Int32 → Option (Int32)) =>
    g_let (fun (_ : Unit) => j88_9 (0 : Int32)) (fun (j87_11 : Unit → Option (Int32)) =>
    if y7 = 0 then
    j87_11 ()
    else
    g_bind (g_X10_areBooked u x9_30 z0_22 x10_45) (fun (y13 : Int32) =>
    if y13 = 0 then
    j87_11 ()
    else
    j88_9 (1 : Int32)))))
    else
    k x8_45
def lp_X10_areTooMany_30 (u : MS) (p2 : Int32) (p3 : Int32) (p4 : Int32) (z0_10 : Int32) (z0_22 : Int32) (k : Int32 → Option (Int32)) : Nat → Int32 → Int32 → Option (Int32)
  | 0, _, _ => none
  | n + 1, x8_30, x9_30 =>
    if p2 < x9_30 then
    k x8_30
    else
    if x8_30 = 0 then
    lp_X10_areTooMany_45 u p4 z0_10 z0_22 x9_30 (fun (x8_45 : Int32)  => g_let (x9_30 + 1) (fun (v16 : Int32) =>
    lp_X10_areTooMany_30 u p2 p3 p4 z0_10 z0_22 k n x8_45 v16)) FU x8_30 p3
    else
    k x8_30
def g_X10_areTooMany (u : MS) (p0 : Int32) (p1 : Int32) (p2 : Int32) (p3 : Int32) (p4 : Int32) : Option (Int32) :=
    g_let (fun (z0_10 : Int32) => g_let (fun (z0_22 : Int32) => lp_X10_areTooMany_30 u p2 p3 p4 z0_10 z0_22 (fun (x8_30 : Int32)  => g_bo x8_30 (some x8_30)) FU (0 : Int32) p1) (fun (j22_2 : Int32 → Option (Int32)) =>
    if p0 = (3 : Int32) then
    j22_2 (2 : Int32)
    else
    j22_2 (3 : Int32))) (fun (j10_1 : Int32 → Option (Int32)) =>
    if p0 = (1 : Int32) then
    j10_1 (2 : Int32)
    else
    j10_1 (1 : Int32))

def g_X10_works (u : MS) (p0 : Int32) (p1 : Int32) (p2 : Int32) (p3 : Int32) (p4 : Int32) : Option (Int32 × MS) :=
    g_bind (g_X10_isIn p0 (1 : Int32) (3 : Int32)) (fun (y1 : Int32) =>
    g_let (fun (z0_34 : Int32) => g_let (fun (z0_76 : Int32) => g_let (fun (z0_125 : Int32) => g_bind (g_X10_holds u z0_125) (fun (y6 : Int32 × MS) =>
    if y6.1 = 0 then
    some ((0 : Int32), y6.2)
    else
    g_in (mB_works y6.2) 8 (
    g_let (mB_worksLane_set y6.2 (upd (mB_worksLane y6.2) (mB_works y6.2).toNatClampNeg p0)) (fun (u10 : MS) =>
    g_in (mB_works u10) 8 (
    g_let (mB_worksFrom_set u10 (upd (mB_worksFrom u10) (mB_works u10).toNatClampNeg p1)) (fun (u12 : MS) =>
    g_in (mB_works u12) 8 (
    g_let (mB_worksTo_set u12 (upd (mB_worksTo u12) (mB_works u12).toNatClampNeg p2)) (fun (u14 : MS) =>
    g_in (mB_works u14) 8 (
    g_let (mB_worksBegin_set u14 (upd (mB_worksBegin u14) (mB_works u14).toNatClampNeg p3)) (fun (u16 : MS) =>
    g_in (mB_works u16) 8 (
    g_let (mB_worksEnd_set u16 (upd (mB_worksEnd u16) (mB_works u16).toNatClampNeg p4)) (fun (u18 : MS) =>
    g_let (mB_works_set u18 ((mB_works u18) + (1 : Int32))) (fun (u19 : MS) =>
    some (((mB_works u19) - (1 : Int32)), u19)))))))))))))) (fun (j125_5 : Int32 → Option (Int32 × MS)) =>
    if z0_34 = 0 then
    j125_5 (1 : Int32)
    else
    if z0_76 = 0 then
    j125_5 (2 : Int32)
    else
    g_let (fun (_ : Unit) => j125_5 (3 : Int32)) (fun (j120_22 : Unit → Option (Int32 × MS)) =>
    if (mB_works u) = (8 : Int32) then
    j120_22 ()
    else
    g_bind (g_X10_areTooMany u p0 p1 p2 p3 p4) (fun (y24 : Int32) =>
    if y24 = 0 then
    j125_5 (0 : Int32)
    else
    j120_22 ())))) (fun (j76_4 : Int32 → Option (Int32 × MS)) =>
    g_let (fun (_ : Unit) => j76_4 (0 : Int32)) (fun (j75_27 : Unit → Option (Int32 × MS)) =>
    if p2 < p1 then
    j75_27 ()
    else
    g_bind (g_X10_isIn p3 (m_now u) (599 : Int32)) (fun (y29 : Int32) =>
    if y29 = 0 then
    j75_27 ()
    else
    if p4 ≤ p3 then
    j75_27 ()
    else
    if (600 : Int32) < p4 then
    j75_27 ()
    else
    j76_4 (1 : Int32))))) (fun (j34_3 : Int32 → Option (Int32 × MS)) =>
    g_let (fun (_ : Unit) => j34_3 (0 : Int32)) (fun (j33_34 : Unit → Option (Int32 × MS)) =>
    if y1 = 0 then
    j33_34 ()
    else
    g_bind (g_X10_isIn p1 (1 : Int32) (11 : Int32)) (fun (y36 : Int32) =>
    if y36 = 0 then
    j33_34 ()
    else
    g_bind (g_X10_isIn p2 (1 : Int32) (11 : Int32)) (fun (y39 : Int32) =>
    if y39 = 0 then
    j33_34 ()
    else
    j34_3 (1 : Int32))))))

def g_X10_isOn (u : MS) (p0 : Int32) : Option (Int32 × MS) :=
    g_bind (g_X10_isIn p0 (0 : Int32) ((mB_works u) - (1 : Int32))) (fun (y1 : Int32) =>
    g_let (fun (z0_20 : Int32) => g_bind (g_X10_holds u z0_20) (fun (y4 : Int32 × MS) =>
    if y4.1 = 0 then
    some ((0 : Int32), y4.2)
    else
    g_bind (g_X10_isOnNow y4.2 p0) (fun (y7 : Int32) =>
    if y7 = 0 then
    some ((0 : Int32), y4.2)
    else
    some ((1 : Int32), y4.2)))) (fun (j20_3 : Int32 → Option (Int32 × MS)) =>
    if y1 = 0 then
    j20_3 (1 : Int32)
    else
    j20_3 (0 : Int32)))

def g_X10_isKept (u : MS) (p0 : Int32) : Option (Int32) :=
    if (m_now u) < p0 then
    some (0 : Int32)
    else
    if p0 ≤ ((m_now u) - (60 : Int32)) then
    some (0 : Int32)
    else
    some (1 : Int32)

def g_X10_proofOf (u : MS) (p0 : Int32) (p1 : Int32) (p2 : Int32) : Option (Int32) :=
    g_in ((((60 : Int32) * (p0 - p0 / (60 : Int32) * (60 : Int32))) + ((5 : Int32) * p1)) + p2) 3600 (
    some (mK_proofs u ((((60 : Int32) * (p0 - p0 / (60 : Int32) * (60 : Int32))) + ((5 : Int32) * p1)) + p2).toNatClampNeg))

def g_X10_proof (u : MS) (p0 : Int32) (p1 : Int32) (p2 : Int32) : Option (Int32 × MS) :=
    g_bind (g_X10_isSection p1) (fun (y1 : Int32) =>
    g_let (fun (z0_42 : Int32) => g_bind (g_X10_holds u z0_42) (fun (y4 : Int32 × MS) =>
    if y4.1 = 0 then
    some ((0 : Int32), y4.2)
    else
    g_bind (g_X10_proofOf y4.2 p0 p1 p2) (fun (y7 : Int32) =>
    some (y7, y4.2)))) (fun (j42_3 : Int32 → Option (Int32 × MS)) =>
    if y1 = 0 then
    j42_3 (1 : Int32)
    else
    g_let (fun (_ : Unit) => j42_3 (2 : Int32)) (fun (j25_10 : Unit → Option (Int32 × MS)) =>
    if p0 < 0 then
    j25_10 ()
    else
    g_bind (g_X10_isIn p2 (0 : Int32) (4 : Int32)) (fun (y12 : Int32) =>
    if y12 = 0 then
    j25_10 ()
    else
    g_bind (g_X10_isKept u p0) (fun (y15 : Int32) =>
    if y15 = 0 then
    j42_3 (3 : Int32)
    else
    j42_3 (0 : Int32))))))

def g_X10_isFined (u : MS) (p0 : Int32) (p1 : Int32) (p2 : Int32) : Option (Int32 × MS) :=
    g_bind (g_X10_isSection p1) (fun (y1 : Int32) =>
    g_let (fun (z0_44 : Int32) => g_bind (g_X10_holds u z0_44) (fun (y4 : Int32 × MS) =>
    if y4.1 = 0 then
    some ((0 : Int32), y4.2)
    else
    g_bind (g_X10_proofOf y4.2 p0 p1 (0 : Int32)) (fun (y7 : Int32) =>
    if p2 < (y7 + (10 : Int32)) then
    some ((0 : Int32), y4.2)
    else
    some ((1 : Int32), y4.2)))) (fun (j44_3 : Int32 → Option (Int32 × MS)) =>
    if y1 = 0 then
    j44_3 (1 : Int32)
    else
    g_let (fun (_ : Unit) => j44_3 (2 : Int32)) (fun (j27_11 : Unit → Option (Int32 × MS)) =>
    if p0 < 0 then
    j27_11 ()
    else
    g_bind (g_X10_isIn p2 (0 : Int32) (250 : Int32)) (fun (y13 : Int32) =>
    if y13 = 0 then
    j27_11 ()
    else
    g_bind (g_X10_isKept u p0) (fun (y16 : Int32) =>
    if y16 = 0 then
    j44_3 (3 : Int32)
    else
    j44_3 (0 : Int32))))))
