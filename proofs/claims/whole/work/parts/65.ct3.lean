-- THE CONSTRUCTORS (walks written by wip/whole/gen_ct3.py)
theorem nw_Van_9 : NWk "VanRounds" 9 2 13 := ⟨R_Planner, F_Planner, t_Planner, rfl, i_Planner, t_Planner_ok, kl_Van_9, mk_Planner, in_Planner_init, fun j hj => by rcases (show j = 0 ∨ j = 1 ∨ j = 2 ∨ j = 3 ∨ j = 4 ∨ j = 5 ∨ j = 6 ∨ j = 7 ∨ j = 8 ∨ j = 9 ∨ j = 10 ∨ j = 11 ∨ j = 12 by omega) with rfl | rfl | rfl | rfl | rfl | rfl | rfl | rfl | rfl | rfl | rfl | rfl | rfl <;> rfl⟩
theorem ff_Van_12 : FLf "VanRounds" 12 7 0 (.object "VanRounds$Planner") := ⟨F_Van, 12, t_Van, rfl, by decide, i_Van, t_Van_ok, n_Van, rfl, rfl, rfl, fm_Van_12⟩
theorem ff_Van_20 : FLf "VanRounds" 20 7 1 (.object "VanRounds$Plan") := ⟨F_Van, 12, t_Van, rfl, by decide, i_Van, t_Van_ok, n_Van, rfl, rfl, rfl, fm_Van_20⟩
theorem ff_Van_25 : FLf "VanRounds" 25 7 2 (.object "VanRounds$Trip") := ⟨F_Van, 12, t_Van, rfl, by decide, i_Van, t_Van_ok, n_Van, rfl, rfl, rfl, fm_Van_25⟩
theorem ff_Van_32 : FLf "VanRounds" 32 7 3 (.object "VanRounds$Town") := ⟨F_Van, 12, t_Van, rfl, by decide, i_Van, t_Van_ok, n_Van, rfl, rfl, rfl, fm_Van_32⟩
theorem ff_Van_37 : FLf "VanRounds" 37 7 4 (.object "VanRounds$Stops") := ⟨F_Van, 12, t_Van, rfl, by decide, i_Van, t_Van_ok, n_Van, rfl, rfl, rfl, fm_Van_37⟩
theorem ff_Van_42 : FLf "VanRounds" 42 7 5 (.object "VanRounds$Vans") := ⟨F_Van, 12, t_Van, rfl, by decide, i_Van, t_Van_ok, n_Van, rfl, rfl, rfl, fm_Van_42⟩
theorem nw_Van_43 : NWk "VanRounds" 43 1 2 := ⟨R_Plan, F_Plan, t_Plan, rfl, i_Plan, t_Plan_ok, kl_Van_43, mk_Plan, in_Plan_init, fun j hj => by rcases (show j = 0 ∨ j = 1 by omega) with rfl | rfl <;> rfl⟩
theorem ff_Van_46 : FLf "VanRounds" 46 7 6 (.object "VanRounds$Plan") := ⟨F_Van, 12, t_Van, rfl, by decide, i_Van, t_Van_ok, n_Van, rfl, rfl, rfl, fm_Van_46⟩
theorem nw_Van_49 : NWk "VanRounds" 49 0 3 := ⟨R_Past, F_Past, t_Past, rfl, i_Past, t_Past_ok, kl_Van_49, mk_Past, in_Past_init, fun j hj => by rcases (show j = 0 ∨ j = 1 ∨ j = 2 by omega) with rfl | rfl | rfl <;> rfl⟩
theorem ff_Van_52 : FLf "VanRounds" 52 7 7 (.object "VanRounds$Past") := ⟨F_Van, 12, t_Van, rfl, by decide, i_Van, t_Van_ok, n_Van, rfl, rfl, rfl, fm_Van_52⟩
theorem ff_Van_56 : FLf "VanRounds" 56 7 8 (.array .int) := ⟨F_Van, 12, t_Van, rfl, by decide, i_Van, t_Van_ok, n_Van, rfl, rfl, rfl, fm_Van_56⟩
theorem ff_Van_67 : FLf "VanRounds" 67 7 11 (.array .int) := ⟨F_Van, 12, t_Van, rfl, by decide, i_Van, t_Van_ok, n_Van, rfl, rfl, rfl, fm_Van_67⟩
theorem nw_Planner_9 : NWk "VanRounds$Planner" 9 5 12 := ⟨R_Trip, F_Trip, t_Trip, rfl, i_Trip, t_Trip_ok, kl_Planner_9, mk_Trip, in_Trip_init, fun j hj => by rcases (show j = 0 ∨ j = 1 ∨ j = 2 ∨ j = 3 ∨ j = 4 ∨ j = 5 ∨ j = 6 ∨ j = 7 ∨ j = 8 ∨ j = 9 ∨ j = 10 ∨ j = 11 by omega) with rfl | rfl | rfl | rfl | rfl | rfl | rfl | rfl | rfl | rfl | rfl | rfl <;> rfl⟩
theorem ff_Planner_12 : FLf "VanRounds$Planner" 12 2 0 (.object "VanRounds$Trip") := ⟨F_Planner, 13, t_Planner, rfl, by decide, i_Planner, t_Planner_ok, n_Planner, rfl, rfl, rfl, fm_Planner_12⟩
theorem ff_Planner_22 : FLf "VanRounds$Planner" 22 2 1 (.object "VanRounds$Stops") := ⟨F_Planner, 13, t_Planner, rfl, by decide, i_Planner, t_Planner_ok, n_Planner, rfl, rfl, rfl, fm_Planner_22⟩
theorem ff_Planner_27 : FLf "VanRounds$Planner" 27 2 2 (.object "VanRounds$Vans") := ⟨F_Planner, 13, t_Planner, rfl, by decide, i_Planner, t_Planner_ok, n_Planner, rfl, rfl, rfl, fm_Planner_27⟩
theorem nw_Planner_28 : NWk "VanRounds$Planner" 28 1 2 := ⟨R_Plan, F_Plan, t_Plan, rfl, i_Plan, t_Plan_ok, kl_Planner_28, mk_Plan, in_Plan_init, fun j hj => by rcases (show j = 0 ∨ j = 1 by omega) with rfl | rfl <;> rfl⟩
theorem ff_Planner_31 : FLf "VanRounds$Planner" 31 2 3 (.object "VanRounds$Plan") := ⟨F_Planner, 13, t_Planner, rfl, by decide, i_Planner, t_Planner_ok, n_Planner, rfl, rfl, rfl, fm_Planner_31⟩
theorem ff_Planner_35 : FLf "VanRounds$Planner" 35 2 9 (.object "VanRounds$Plan") := ⟨F_Planner, 13, t_Planner, rfl, by decide, i_Planner, t_Planner_ok, n_Planner, rfl, rfl, rfl, fm_Planner_35⟩
theorem nw_Trip_9 : NWk "VanRounds$Trip" 9 4 6 := ⟨R_Town, F_Town, t_Town, rfl, i_Town, t_Town_ok, kl_Trip_9, mk_Town, in_Town_init, fun j hj => by rcases (show j = 0 ∨ j = 1 ∨ j = 2 ∨ j = 3 ∨ j = 4 ∨ j = 5 by omega) with rfl | rfl | rfl | rfl | rfl | rfl <;> rfl⟩
theorem ff_Trip_12 : FLf "VanRounds$Trip" 12 5 0 (.object "VanRounds$Town") := ⟨F_Trip, 12, t_Trip, rfl, by decide, i_Trip, t_Trip_ok, n_Trip, rfl, rfl, rfl, fm_Trip_12⟩
theorem nw_Trip_18 : NWk "VanRounds$Trip" 18 3 9 := ⟨R_Stops, F_Stops, t_Stops, rfl, i_Stops, t_Stops_ok, kl_Trip_18, mk_Stops, in_Stops_init, fun j hj => by rcases (show j = 0 ∨ j = 1 ∨ j = 2 ∨ j = 3 ∨ j = 4 ∨ j = 5 ∨ j = 6 ∨ j = 7 ∨ j = 8 by omega) with rfl | rfl | rfl | rfl | rfl | rfl | rfl | rfl | rfl <;> rfl⟩
theorem ff_Trip_21 : FLf "VanRounds$Trip" 21 5 1 (.object "VanRounds$Stops") := ⟨F_Trip, 12, t_Trip, rfl, by decide, i_Trip, t_Trip_ok, n_Trip, rfl, rfl, rfl, fm_Trip_21⟩
theorem nw_Trip_25 : NWk "VanRounds$Trip" 25 6 5 := ⟨R_Vans, F_Vans, t_Vans, rfl, i_Vans, t_Vans_ok, kl_Trip_25, mk_Vans, in_Vans_init, fun j hj => by rcases (show j = 0 ∨ j = 1 ∨ j = 2 ∨ j = 3 ∨ j = 4 by omega) with rfl | rfl | rfl | rfl | rfl <;> rfl⟩
theorem ff_Trip_28 : FLf "VanRounds$Trip" 28 5 2 (.object "VanRounds$Vans") := ⟨F_Trip, 12, t_Trip, rfl, by decide, i_Trip, t_Trip_ok, n_Trip, rfl, rfl, rfl, fm_Trip_28⟩
theorem ff_Trip_32 : FLf "VanRounds$Trip" 32 5 3 (.array .int) := ⟨F_Trip, 12, t_Trip, rfl, by decide, i_Trip, t_Trip_ok, n_Trip, rfl, rfl, rfl, fm_Trip_32⟩
theorem ff_Trip_36 : FLf "VanRounds$Trip" 36 5 4 (.array .int) := ⟨F_Trip, 12, t_Trip, rfl, by decide, i_Trip, t_Trip_ok, n_Trip, rfl, rfl, rfl, fm_Trip_36⟩
theorem ff_Trip_39 : FLf "VanRounds$Trip" 39 5 5 (.array .int) := ⟨F_Trip, 12, t_Trip, rfl, by decide, i_Trip, t_Trip_ok, n_Trip, rfl, rfl, rfl, fm_Trip_39⟩
theorem ff_Trip_42 : FLf "VanRounds$Trip" 42 5 6 (.array .int) := ⟨F_Trip, 12, t_Trip, rfl, by decide, i_Trip, t_Trip_ok, n_Trip, rfl, rfl, rfl, fm_Trip_42⟩
theorem ff_Town_9 : FLf "VanRounds$Town" 9 4 0 (.array .int) := ⟨F_Town, 6, t_Town, rfl, by decide, i_Town, t_Town_ok, n_Town, rfl, rfl, rfl, fm_Town_9⟩
theorem ff_Town_15 : FLf "VanRounds$Town" 15 4 1 (.array .int) := ⟨F_Town, 6, t_Town, rfl, by decide, i_Town, t_Town_ok, n_Town, rfl, rfl, rfl, fm_Town_15⟩
theorem ff_Town_18 : FLf "VanRounds$Town" 18 4 2 (.array .int) := ⟨F_Town, 6, t_Town, rfl, by decide, i_Town, t_Town_ok, n_Town, rfl, rfl, rfl, fm_Town_18⟩
theorem ff_Town_21 : FLf "VanRounds$Town" 21 4 3 (.array .int) := ⟨F_Town, 6, t_Town, rfl, by decide, i_Town, t_Town_ok, n_Town, rfl, rfl, rfl, fm_Town_21⟩
theorem ff_Town_24 : FLf "VanRounds$Town" 24 4 4 (.array .int) := ⟨F_Town, 6, t_Town, rfl, by decide, i_Town, t_Town_ok, n_Town, rfl, rfl, rfl, fm_Town_24⟩
theorem ff_Stops_9 : FLf "VanRounds$Stops" 9 3 1 (.array .int) := ⟨F_Stops, 9, t_Stops, rfl, by decide, i_Stops, t_Stops_ok, n_Stops, rfl, rfl, rfl, fm_Stops_9⟩
theorem ff_Stops_15 : FLf "VanRounds$Stops" 15 3 2 (.array .int) := ⟨F_Stops, 9, t_Stops, rfl, by decide, i_Stops, t_Stops_ok, n_Stops, rfl, rfl, rfl, fm_Stops_15⟩
theorem ff_Stops_18 : FLf "VanRounds$Stops" 18 3 3 (.array .int) := ⟨F_Stops, 9, t_Stops, rfl, by decide, i_Stops, t_Stops_ok, n_Stops, rfl, rfl, rfl, fm_Stops_18⟩
theorem ff_Stops_21 : FLf "VanRounds$Stops" 21 3 4 (.array .int) := ⟨F_Stops, 9, t_Stops, rfl, by decide, i_Stops, t_Stops_ok, n_Stops, rfl, rfl, rfl, fm_Stops_21⟩
theorem ff_Stops_24 : FLf "VanRounds$Stops" 24 3 5 (.array .int) := ⟨F_Stops, 9, t_Stops, rfl, by decide, i_Stops, t_Stops_ok, n_Stops, rfl, rfl, rfl, fm_Stops_24⟩
theorem ff_Stops_27 : FLf "VanRounds$Stops" 27 3 6 (.array .int) := ⟨F_Stops, 9, t_Stops, rfl, by decide, i_Stops, t_Stops_ok, n_Stops, rfl, rfl, rfl, fm_Stops_27⟩
theorem ff_Stops_30 : FLf "VanRounds$Stops" 30 3 7 (.array .int) := ⟨F_Stops, 9, t_Stops, rfl, by decide, i_Stops, t_Stops_ok, n_Stops, rfl, rfl, rfl, fm_Stops_30⟩
theorem ff_Stops_33 : FLf "VanRounds$Stops" 33 3 8 (.array .int) := ⟨F_Stops, 9, t_Stops, rfl, by decide, i_Stops, t_Stops_ok, n_Stops, rfl, rfl, rfl, fm_Stops_33⟩
theorem ff_Vans_9 : FLf "VanRounds$Vans" 9 6 1 (.array .int) := ⟨F_Vans, 5, t_Vans, rfl, by decide, i_Vans, t_Vans_ok, n_Vans, rfl, rfl, rfl, fm_Vans_9⟩
theorem ff_Vans_15 : FLf "VanRounds$Vans" 15 6 2 (.array .int) := ⟨F_Vans, 5, t_Vans, rfl, by decide, i_Vans, t_Vans_ok, n_Vans, rfl, rfl, rfl, fm_Vans_15⟩
theorem ff_Vans_18 : FLf "VanRounds$Vans" 18 6 3 (.array .int) := ⟨F_Vans, 5, t_Vans, rfl, by decide, i_Vans, t_Vans_ok, n_Vans, rfl, rfl, rfl, fm_Vans_18⟩
theorem ff_Vans_21 : FLf "VanRounds$Vans" 21 6 4 (.array .int) := ⟨F_Vans, 5, t_Vans, rfl, by decide, i_Vans, t_Vans_ok, n_Vans, rfl, rfl, rfl, fm_Vans_21⟩
theorem ff_Plan_11 : FLf "VanRounds$Plan" 11 1 0 (.array (.array .int)) := ⟨F_Plan, 2, t_Plan, rfl, by decide, i_Plan, t_Plan_ok, n_Plan, rfl, rfl, rfl, fm_Plan_11⟩
theorem ff_Plan_16 : FLf "VanRounds$Plan" 16 1 1 (.array .int) := ⟨F_Plan, 2, t_Plan, rfl, by decide, i_Plan, t_Plan_ok, n_Plan, rfl, rfl, rfl, fm_Plan_16⟩
theorem ff_Past_11 : FLf "VanRounds$Past" 11 0 0 (.array (.object "VanRounds$Plan")) := ⟨F_Past, 3, t_Past, rfl, by decide, i_Past, t_Past_ok, n_Past, rfl, rfl, rfl, fm_Past_11⟩
theorem nw_Past_9 : NWk "VanRounds$Past" 9 1 2 := ⟨R_Plan, F_Plan, t_Plan, rfl, i_Plan, t_Plan_ok, kl_Past_9, mk_Plan, in_Plan_init, fun j hj => by rcases (show j = 0 ∨ j = 1 by omega) with rfl | rfl <;> rfl⟩
theorem ff_Mod_7 : FLf "VanRoundsModel" 7 8 0 (.array .int) := ⟨F_Mod, 46, t_Mod, rfl, by decide, i_Mod, t_Mod_ok, n_Mod, rfl, rfl, rfl, fm_Mod_7⟩
theorem ff_Mod_13 : FLf "VanRoundsModel" 13 8 1 (.array .int) := ⟨F_Mod, 46, t_Mod, rfl, by decide, i_Mod, t_Mod_ok, n_Mod, rfl, rfl, rfl, fm_Mod_13⟩
theorem ff_Mod_16 : FLf "VanRoundsModel" 16 8 2 (.array .int) := ⟨F_Mod, 46, t_Mod, rfl, by decide, i_Mod, t_Mod_ok, n_Mod, rfl, rfl, rfl, fm_Mod_16⟩
theorem ff_Mod_19 : FLf "VanRoundsModel" 19 8 3 (.array .int) := ⟨F_Mod, 46, t_Mod, rfl, by decide, i_Mod, t_Mod_ok, n_Mod, rfl, rfl, rfl, fm_Mod_19⟩
theorem ff_Mod_22 : FLf "VanRoundsModel" 22 8 4 (.array .int) := ⟨F_Mod, 46, t_Mod, rfl, by decide, i_Mod, t_Mod_ok, n_Mod, rfl, rfl, rfl, fm_Mod_22⟩
theorem ff_Mod_25 : FLf "VanRoundsModel" 25 8 5 (.array .int) := ⟨F_Mod, 46, t_Mod, rfl, by decide, i_Mod, t_Mod_ok, n_Mod, rfl, rfl, rfl, fm_Mod_25⟩
theorem ff_Mod_28 : FLf "VanRoundsModel" 28 8 6 (.array .int) := ⟨F_Mod, 46, t_Mod, rfl, by decide, i_Mod, t_Mod_ok, n_Mod, rfl, rfl, rfl, fm_Mod_28⟩
theorem ff_Mod_31 : FLf "VanRoundsModel" 31 8 7 (.array .int) := ⟨F_Mod, 46, t_Mod, rfl, by decide, i_Mod, t_Mod_ok, n_Mod, rfl, rfl, rfl, fm_Mod_31⟩
theorem ff_Mod_34 : FLf "VanRoundsModel" 34 8 8 (.array .int) := ⟨F_Mod, 46, t_Mod, rfl, by decide, i_Mod, t_Mod_ok, n_Mod, rfl, rfl, rfl, fm_Mod_34⟩
theorem ff_Mod_37 : FLf "VanRoundsModel" 37 8 9 (.array .int) := ⟨F_Mod, 46, t_Mod, rfl, by decide, i_Mod, t_Mod_ok, n_Mod, rfl, rfl, rfl, fm_Mod_37⟩
theorem ff_Mod_40 : FLf "VanRoundsModel" 40 8 10 (.array .int) := ⟨F_Mod, 46, t_Mod, rfl, by decide, i_Mod, t_Mod_ok, n_Mod, rfl, rfl, rfl, fm_Mod_40⟩
theorem ff_Mod_43 : FLf "VanRoundsModel" 43 8 11 (.array .int) := ⟨F_Mod, 46, t_Mod, rfl, by decide, i_Mod, t_Mod_ok, n_Mod, rfl, rfl, rfl, fm_Mod_43⟩
theorem ff_Mod_46 : FLf "VanRoundsModel" 46 8 12 (.array .int) := ⟨F_Mod, 46, t_Mod, rfl, by decide, i_Mod, t_Mod_ok, n_Mod, rfl, rfl, rfl, fm_Mod_46⟩
theorem ff_Mod_49 : FLf "VanRoundsModel" 49 8 15 (.array .int) := ⟨F_Mod, 46, t_Mod, rfl, by decide, i_Mod, t_Mod_ok, n_Mod, rfl, rfl, rfl, fm_Mod_49⟩
theorem ff_Mod_52 : FLf "VanRoundsModel" 52 8 16 (.array .int) := ⟨F_Mod, 46, t_Mod, rfl, by decide, i_Mod, t_Mod_ok, n_Mod, rfl, rfl, rfl, fm_Mod_52⟩
theorem ff_Mod_55 : FLf "VanRoundsModel" 55 8 17 (.array .int) := ⟨F_Mod, 46, t_Mod, rfl, by decide, i_Mod, t_Mod_ok, n_Mod, rfl, rfl, rfl, fm_Mod_55⟩
theorem ff_Mod_58 : FLf "VanRoundsModel" 58 8 18 (.array .int) := ⟨F_Mod, 46, t_Mod, rfl, by decide, i_Mod, t_Mod_ok, n_Mod, rfl, rfl, rfl, fm_Mod_58⟩
theorem ff_Mod_61 : FLf "VanRoundsModel" 61 8 19 (.array .int) := ⟨F_Mod, 46, t_Mod, rfl, by decide, i_Mod, t_Mod_ok, n_Mod, rfl, rfl, rfl, fm_Mod_61⟩
theorem ff_Mod_64 : FLf "VanRoundsModel" 64 8 21 (.array .int) := ⟨F_Mod, 46, t_Mod, rfl, by decide, i_Mod, t_Mod_ok, n_Mod, rfl, rfl, rfl, fm_Mod_64⟩
theorem ff_Mod_67 : FLf "VanRoundsModel" 67 8 22 (.array .int) := ⟨F_Mod, 46, t_Mod, rfl, by decide, i_Mod, t_Mod_ok, n_Mod, rfl, rfl, rfl, fm_Mod_67⟩
theorem ff_Mod_70 : FLf "VanRoundsModel" 70 8 23 (.array .boolean) := ⟨F_Mod, 46, t_Mod, rfl, by decide, i_Mod, t_Mod_ok, n_Mod, rfl, rfl, rfl, fm_Mod_70⟩
theorem ff_Mod_74 : FLf "VanRoundsModel" 74 8 24 (.array .int) := ⟨F_Mod, 46, t_Mod, rfl, by decide, i_Mod, t_Mod_ok, n_Mod, rfl, rfl, rfl, fm_Mod_74⟩
theorem ff_Mod_77 : FLf "VanRoundsModel" 77 8 25 (.array .int) := ⟨F_Mod, 46, t_Mod, rfl, by decide, i_Mod, t_Mod_ok, n_Mod, rfl, rfl, rfl, fm_Mod_77⟩
theorem ff_Mod_80 : FLf "VanRoundsModel" 80 8 26 (.array .int) := ⟨F_Mod, 46, t_Mod, rfl, by decide, i_Mod, t_Mod_ok, n_Mod, rfl, rfl, rfl, fm_Mod_80⟩
theorem ff_Mod_83 : FLf "VanRoundsModel" 83 8 27 (.array .int) := ⟨F_Mod, 46, t_Mod, rfl, by decide, i_Mod, t_Mod_ok, n_Mod, rfl, rfl, rfl, fm_Mod_83⟩
theorem ff_Mod_86 : FLf "VanRoundsModel" 86 8 28 (.array .int) := ⟨F_Mod, 46, t_Mod, rfl, by decide, i_Mod, t_Mod_ok, n_Mod, rfl, rfl, rfl, fm_Mod_86⟩
theorem ff_Mod_93 : FLf "VanRoundsModel" 93 8 43 (.array .int) := ⟨F_Mod, 46, t_Mod, rfl, by decide, i_Mod, t_Mod_ok, n_Mod, rfl, rfl, rfl, fm_Mod_93⟩
theorem ff_Mod_96 : FLf "VanRoundsModel" 96 8 44 (.array .int) := ⟨F_Mod, 46, t_Mod, rfl, by decide, i_Mod, t_Mod_ok, n_Mod, rfl, rfl, rfl, fm_Mod_96⟩
theorem nw_Law_7 : NWk "VanRoundsLaw" 7 7 12 := ⟨R_Van, F_Van, t_Van, rfl, i_Van, t_Van_ok, kl_Law_7, mk_Van, in_Van_init, fun j hj => by rcases (show j = 0 ∨ j = 1 ∨ j = 2 ∨ j = 3 ∨ j = 4 ∨ j = 5 ∨ j = 6 ∨ j = 7 ∨ j = 8 ∨ j = 9 ∨ j = 10 ∨ j = 11 by omega) with rfl | rfl | rfl | rfl | rfl | rfl | rfl | rfl | rfl | rfl | rfl | rfl <;> rfl⟩
theorem nw_Law_10 : NWk "VanRoundsLaw" 10 8 46 := ⟨R_Mod, F_Mod, t_Mod, rfl, i_Mod, t_Mod_ok, kl_Law_10, mk_Mod, in_Mod_init, fun j hj => by rcases (show j = 0 ∨ j = 1 ∨ j = 2 ∨ j = 3 ∨ j = 4 ∨ j = 5 ∨ j = 6 ∨ j = 7 ∨ j = 8 ∨ j = 9 ∨ j = 10 ∨ j = 11 ∨ j = 12 ∨ j = 13 ∨ j = 14 ∨ j = 15 ∨ j = 16 ∨ j = 17 ∨ j = 18 ∨ j = 19 ∨ j = 20 ∨ j = 21 ∨ j = 22 ∨ j = 23 ∨ j = 24 ∨ j = 25 ∨ j = 26 ∨ j = 27 ∨ j = 28 ∨ j = 29 ∨ j = 30 ∨ j = 31 ∨ j = 32 ∨ j = 33 ∨ j = 34 ∨ j = 35 ∨ j = 36 ∨ j = 37 ∨ j = 38 ∨ j = 39 ∨ j = 40 ∨ j = 41 ∨ j = 42 ∨ j = 43 ∨ j = 44 ∨ j = 45 by omega) with rfl | rfl | rfl | rfl | rfl | rfl | rfl | rfl | rfl | rfl | rfl | rfl | rfl | rfl | rfl | rfl | rfl | rfl | rfl | rfl | rfl | rfl | rfl | rfl | rfl | rfl | rfl | rfl | rfl | rfl | rfl | rfl | rfl | rfl | rfl | rfl | rfl | rfl | rfl | rfl | rfl | rfl | rfl | rfl | rfl | rfl <;> rfl⟩
section CN
variable {M : mi} {pc : Nat} {ls st : List av} {D : Dn} {lev mc ms n0 a b : Nat} {Q : Option av → hpd → Prop}
theorem p_cn {My : mi} {lev' mc' ms' idx c e : Nat} (a' b' : Nat) (hd : decode M.2.1 pc = .ok (.invokespecial idx, 3)) (hlk : Cond.methodLink M.1.cls idx My.1 ∈ lw_tbl ∨ ∃ host, Cond.methodLinkNest M.1.cls idx My.1 host ∈ lw_tbl) (hV : IC My) (hN : CNc My lev' mc' ms' c e) (hD : ∀ k, c ≤ k → D k = fun _ => false) (hn : n0 + a = c + 1) (hR : lev' + 1 ≤ lev ∧ 8 + (My.2.2.1 + 11) + 64 * lev' ≤ 64 * lev) (ha : a + mc' = a') (hb : b + ms' = b') (hz : a' ≤ mc) (hs : b' ≤ ms) (hro : (st.map catv).sum ≤ 8)
    (kk : Run M (rxN lev mc ms n0 Q) (a', b') (pc + 3) ls st (pg D e)) : Run M (rxN lev mc ms n0 Q) (a, b) pc ls (vR c :: st) (pg (set9 D c (fun _ => true)) (c + 1)) :=
  p_callI a' b' hd hlk hV (hN D hD) hn (by omega) hR ha hb hz hs hro (fun v w' h => by obtain ⟨rfl, rfl⟩ := h; exact kk)
end CN
theorem cn_Plan {p : Nat} (hp : isPl (p : Int)) : CNc M_Plan_init 1 5 42 p (p + 6) := by
  have hr := pl_in hp
  have k0 : KD (p : Int) = 1 := kd_pl hp
  have k1 : KD ((p + 1 : Nat) : Int) = 12 := by rw [show ((p + 1 : Nat) : Int) = (p : Int) + 1 by omega]; exact kd_pr hp
  have a1 : AL ((p + 1 : Nat) : Int) = 3 := by rw [show ((p + 1 : Nat) : Int) = (p : Int) + 1 by omega]; exact al_pr hp
  have k5 : KD ((p + 5 : Nat) : Int) = 9 := by rw [show ((p + 5 : Nat) : Int) = (p : Int) + 5 by omega]; exact kd_ps hp
  have a5 : AL ((p + 5 : Nat) : Int) = 3 := by rw [show ((p + 5 : Nat) : Int) = (p : Int) + 5 by omega]; exact al_ps hp
  have l0 : lay (p : Int) ((0 : Nat) : Int) = ((p + 1 : Nat) : Int) := by rw [show ((p + 1 : Nat) : Int) = (p : Int) + 1 by omega]; exact lay_p0 hp
  have l1 : lay (p : Int) ((1 : Nat) : Int) = ((p + 5 : Nat) : Int) := by rw [show ((p + 5 : Nat) : Int) = (p : Int) + 5 by omega]; exact lay_p1 hp
  have i0 : ∀ k : Nat, 27 ≤ k → k ≤ 168 → ∀ i, ini k i = 0 := fun k q1 q2 i => by unfold ini; rw [if_neg (by omega), if_neg (by omega), if_neg (by omega)]
  intro D hD
  refine cn_of [vR (p : Int)] fy_Plan_init.1 rfl (Nat.le_of_ble_eq_true rfl) ?_
  refine r_aload_n 0 d_Plan_init_0 rfl rfl ?_
  refine p_obj d_Plan_init_1 lk_Plan_3 (Nat.le_of_ble_eq_true rfl) ?_
  refine r_aload_n 0 d_Plan_init_4 rfl rfl ?_
  refine r_iconst d_Plan_init_5 ?_
  refine r_bipush d_Plan_init_6 (by decide) ?_
  refine p_multi (n := p + 1) 4 39 d_Plan_init_8 kl_Plan_9 rfl (by omega) rfl rfl (Nat.le_of_ble_eq_true rfl) (Nat.le_of_ble_eq_true rfl) k1 a1 (fun j hj => ?_) (fun j hj => ⟨?_, ?_, i0 _ (by omega) (by omega)⟩) (by rw [set9_ne (by omega)]; exact hD _ (by omega)) ?_
  · rw [show ((p + 1 : Nat) : Int) = (p : Int) + 1 by omega, lay_pr hp (by omega) (by omega)]; omega
  · rw [show ((p + 1 + 1 + j : Nat) : Int) = (p : Int) + 2 + j by omega]; exact kd_pw hp (by omega) (by omega)
  · rw [show ((p + 1 + 1 + j : Nat) : Int) = (p : Int) + 2 + j by omega]; exact al_pw hp (by omega) (by omega)
  refine p_putR (c := p) (r := p + 1) d_Plan_init_12 ff_Plan_11 (fun _ => ⟨rfl, rfl⟩) rfl k0 rfl l0 (by omega) ?_
  refine r_aload_n 0 d_Plan_init_15 rfl rfl ?_
  refine r_iconst d_Plan_init_16 ?_
  refine p_newa (n := p + 5) 3 5 42 d_Plan_init_17 rfl k5 a5 (i0 _ (by omega) (by omega)) rfl (by omega) (Nat.le_of_ble_eq_true rfl) rfl rfl (Nat.le_of_ble_eq_true rfl) (Nat.le_of_ble_eq_true rfl) ?_
  refine p_putR (c := p) (r := p + 5) d_Plan_init_19 ff_Plan_16 (fun _ => ⟨rfl, rfl⟩) rfl k0 rfl l1 (by omega) ?_
  refine p_vret d_Plan_init_22 rfl ⟨rfl, ?_⟩
  refine pg_fin (c := p) (ci := 1) k0 (by decide) (hD p (Nat.le_refl _)) (fun k hk => by (repeat rw [clr_ne hk]); rw [set9_ne hk]) (fun i hi => ?_)
  have hi : i < 2 := hi
  rcases (show i = 0 ∨ i = 1 by omega) with rfl | rfl <;> exact Or.inl (by simp [clr, set9])
set_option maxRecDepth 4000 in
theorem cn_Town : CNc M_Town_init 1 5 5640 3 9 := by
  intro D hD
  refine cn_of [vR ((3 : Nat) : Int)] fy_Town_init.1 rfl (Nat.le_of_ble_eq_true rfl) ?_
  refine r_aload_n 0 d_Town_init_0 rfl rfl ?_
  refine p_obj d_Town_init_1 lk_Town_3 (Nat.le_of_ble_eq_true rfl) ?_
  refine r_aload_n 0 d_Town_init_4 rfl rfl ?_
  refine r_sipush d_Town_init_5 (by decide) ?_
  refine p_newa (n := 4) 512 1 512 d_Town_init_8 rfl rfl rfl (fun _ => rfl) rfl (by decide) (Nat.le_of_ble_eq_true rfl) rfl rfl (Nat.le_of_ble_eq_true rfl) (Nat.le_of_ble_eq_true rfl) ?_
  refine p_putR (c := 3) (r := 4) d_Town_init_10 ff_Town_9 (fun _ => ⟨rfl, rfl⟩) rfl rfl rfl rfl (by decide) ?_
  refine r_aload_n 0 d_Town_init_13 rfl rfl ?_
  refine r_sipush d_Town_init_14 (by decide) ?_
  refine p_newa (n := 5) 512 2 1024 d_Town_init_17 rfl rfl rfl (fun _ => rfl) rfl (by decide) (Nat.le_of_ble_eq_true rfl) rfl rfl (Nat.le_of_ble_eq_true rfl) (Nat.le_of_ble_eq_true rfl) ?_
  refine p_putR (c := 3) (r := 5) d_Town_init_19 ff_Town_15 (fun _ => ⟨rfl, rfl⟩) rfl rfl rfl rfl (by decide) ?_
  refine r_aload_n 0 d_Town_init_22 rfl rfl ?_
  refine r_bipush d_Town_init_23 (by decide) ?_
  refine p_newa (n := 6) 8 3 1032 d_Town_init_25 rfl rfl rfl (fun _ => rfl) rfl (by decide) (Nat.le_of_ble_eq_true rfl) rfl rfl (Nat.le_of_ble_eq_true rfl) (Nat.le_of_ble_eq_true rfl) ?_
  refine p_putR (c := 3) (r := 6) d_Town_init_27 ff_Town_18 (fun _ => ⟨rfl, rfl⟩) rfl rfl rfl rfl (by decide) ?_
  refine r_aload_n 0 d_Town_init_30 rfl rfl ?_
  refine r_sipush d_Town_init_31 (by decide) ?_
  refine p_newa (n := 7) 4096 4 5128 d_Town_init_34 rfl rfl rfl (fun _ => rfl) rfl (by decide) (Nat.le_of_ble_eq_true rfl) rfl rfl (Nat.le_of_ble_eq_true rfl) (Nat.le_of_ble_eq_true rfl) ?_
  refine p_putR (c := 3) (r := 7) d_Town_init_36 ff_Town_21 (fun _ => ⟨rfl, rfl⟩) rfl rfl rfl rfl (by decide) ?_
  refine r_aload_n 0 d_Town_init_39 rfl rfl ?_
  refine r_sipush d_Town_init_40 (by decide) ?_
  refine p_newa (n := 8) 512 5 5640 d_Town_init_43 rfl rfl rfl (fun _ => rfl) rfl (by decide) (Nat.le_of_ble_eq_true rfl) rfl rfl (Nat.le_of_ble_eq_true rfl) (Nat.le_of_ble_eq_true rfl) ?_
  refine p_putR (c := 3) (r := 8) d_Town_init_45 ff_Town_24 (fun _ => ⟨rfl, rfl⟩) rfl rfl rfl rfl (by decide) ?_
  refine r_aload_n 0 d_Town_init_48 rfl rfl ?_
  refine r_iconst d_Town_init_49 ?_
  refine p_putI (c := 3) d_Town_init_50 fk_Town_27 rfl rfl rfl (by decide) ?_
  refine p_vret d_Town_init_53 rfl ⟨rfl, ?_⟩
  refine pg_fin (c := 3) (ci := 4) rfl (by decide) (hD 3 (Nat.le_refl _)) (fun k hk => by (repeat rw [clr_ne hk]); rw [set9_ne hk]) (fun i hi => ?_)
  have hi : i < 6 := hi
  rcases (show i = 0 ∨ i = 1 ∨ i = 2 ∨ i = 3 ∨ i = 4 ∨ i = 5 by omega) with rfl | rfl | rfl | rfl | rfl | rfl <;> first | (refine Or.inr ⟨?_, ?_⟩ <;> decide) | (refine Or.inl ?_; simp [clr, set9]; done)
set_option maxRecDepth 4000 in
theorem cn_Stops : CNc M_Stops_init 1 8 96 9 18 := by
  intro D hD
  refine cn_of [vR ((9 : Nat) : Int)] fy_Stops_init.1 rfl (Nat.le_of_ble_eq_true rfl) ?_
  refine r_aload_n 0 d_Stops_init_0 rfl rfl ?_
  refine p_obj d_Stops_init_1 lk_Stops_3 (Nat.le_of_ble_eq_true rfl) ?_
  refine r_aload_n 0 d_Stops_init_4 rfl rfl ?_
  refine r_bipush d_Stops_init_5 (by decide) ?_
  refine p_newa (n := 10) 12 1 12 d_Stops_init_7 rfl rfl rfl (fun _ => rfl) rfl (by decide) (Nat.le_of_ble_eq_true rfl) rfl rfl (Nat.le_of_ble_eq_true rfl) (Nat.le_of_ble_eq_true rfl) ?_
  refine p_putR (c := 9) (r := 10) d_Stops_init_9 ff_Stops_9 (fun _ => ⟨rfl, rfl⟩) rfl rfl rfl rfl (by decide) ?_
  refine r_aload_n 0 d_Stops_init_12 rfl rfl ?_
  refine r_bipush d_Stops_init_13 (by decide) ?_
  refine p_newa (n := 11) 12 2 24 d_Stops_init_15 rfl rfl rfl (fun _ => rfl) rfl (by decide) (Nat.le_of_ble_eq_true rfl) rfl rfl (Nat.le_of_ble_eq_true rfl) (Nat.le_of_ble_eq_true rfl) ?_
  refine p_putR (c := 9) (r := 11) d_Stops_init_17 ff_Stops_15 (fun _ => ⟨rfl, rfl⟩) rfl rfl rfl rfl (by decide) ?_
  refine r_aload_n 0 d_Stops_init_20 rfl rfl ?_
  refine r_bipush d_Stops_init_21 (by decide) ?_
  refine p_newa (n := 12) 12 3 36 d_Stops_init_23 rfl rfl rfl (fun _ => rfl) rfl (by decide) (Nat.le_of_ble_eq_true rfl) rfl rfl (Nat.le_of_ble_eq_true rfl) (Nat.le_of_ble_eq_true rfl) ?_
  refine p_putR (c := 9) (r := 12) d_Stops_init_25 ff_Stops_18 (fun _ => ⟨rfl, rfl⟩) rfl rfl rfl rfl (by decide) ?_
  refine r_aload_n 0 d_Stops_init_28 rfl rfl ?_
  refine r_bipush d_Stops_init_29 (by decide) ?_
  refine p_newa (n := 13) 12 4 48 d_Stops_init_31 rfl rfl rfl (fun _ => rfl) rfl (by decide) (Nat.le_of_ble_eq_true rfl) rfl rfl (Nat.le_of_ble_eq_true rfl) (Nat.le_of_ble_eq_true rfl) ?_
  refine p_putR (c := 9) (r := 13) d_Stops_init_33 ff_Stops_21 (fun _ => ⟨rfl, rfl⟩) rfl rfl rfl rfl (by decide) ?_
  refine r_aload_n 0 d_Stops_init_36 rfl rfl ?_
  refine r_bipush d_Stops_init_37 (by decide) ?_
  refine p_newa (n := 14) 12 5 60 d_Stops_init_39 rfl rfl rfl (fun _ => rfl) rfl (by decide) (Nat.le_of_ble_eq_true rfl) rfl rfl (Nat.le_of_ble_eq_true rfl) (Nat.le_of_ble_eq_true rfl) ?_
  refine p_putR (c := 9) (r := 14) d_Stops_init_41 ff_Stops_24 (fun _ => ⟨rfl, rfl⟩) rfl rfl rfl rfl (by decide) ?_
  refine r_aload_n 0 d_Stops_init_44 rfl rfl ?_
  refine r_bipush d_Stops_init_45 (by decide) ?_
  refine p_newa (n := 15) 12 6 72 d_Stops_init_47 rfl rfl rfl (fun _ => rfl) rfl (by decide) (Nat.le_of_ble_eq_true rfl) rfl rfl (Nat.le_of_ble_eq_true rfl) (Nat.le_of_ble_eq_true rfl) ?_
  refine p_putR (c := 9) (r := 15) d_Stops_init_49 ff_Stops_27 (fun _ => ⟨rfl, rfl⟩) rfl rfl rfl rfl (by decide) ?_
  refine r_aload_n 0 d_Stops_init_52 rfl rfl ?_
  refine r_bipush d_Stops_init_53 (by decide) ?_
  refine p_newa (n := 16) 12 7 84 d_Stops_init_55 rfl rfl rfl (fun _ => rfl) rfl (by decide) (Nat.le_of_ble_eq_true rfl) rfl rfl (Nat.le_of_ble_eq_true rfl) (Nat.le_of_ble_eq_true rfl) ?_
  refine p_putR (c := 9) (r := 16) d_Stops_init_57 ff_Stops_30 (fun _ => ⟨rfl, rfl⟩) rfl rfl rfl rfl (by decide) ?_
  refine r_aload_n 0 d_Stops_init_60 rfl rfl ?_
  refine r_bipush d_Stops_init_61 (by decide) ?_
  refine p_newa (n := 17) 12 8 96 d_Stops_init_63 rfl rfl rfl (fun _ => rfl) rfl (by decide) (Nat.le_of_ble_eq_true rfl) rfl rfl (Nat.le_of_ble_eq_true rfl) (Nat.le_of_ble_eq_true rfl) ?_
  refine p_putR (c := 9) (r := 17) d_Stops_init_65 ff_Stops_33 (fun _ => ⟨rfl, rfl⟩) rfl rfl rfl rfl (by decide) ?_
  refine p_vret d_Stops_init_68 rfl ⟨rfl, ?_⟩
  refine pg_fin (c := 9) (ci := 3) rfl (by decide) (hD 9 (Nat.le_refl _)) (fun k hk => by (repeat rw [clr_ne hk]); rw [set9_ne hk]) (fun i hi => ?_)
  have hi : i < 9 := hi
  rcases (show i = 0 ∨ i = 1 ∨ i = 2 ∨ i = 3 ∨ i = 4 ∨ i = 5 ∨ i = 6 ∨ i = 7 ∨ i = 8 by omega) with rfl | rfl | rfl | rfl | rfl | rfl | rfl | rfl | rfl <;> first | (refine Or.inr ⟨?_, ?_⟩ <;> decide) | (refine Or.inl ?_; simp [clr, set9]; done)
set_option maxRecDepth 4000 in
theorem cn_Vans : CNc M_Vans_init 1 4 12 18 23 := by
  intro D hD
  refine cn_of [vR ((18 : Nat) : Int)] fy_Vans_init.1 rfl (Nat.le_of_ble_eq_true rfl) ?_
  refine r_aload_n 0 d_Vans_init_0 rfl rfl ?_
  refine p_obj d_Vans_init_1 lk_Vans_3 (Nat.le_of_ble_eq_true rfl) ?_
  refine r_aload_n 0 d_Vans_init_4 rfl rfl ?_
  refine r_iconst d_Vans_init_5 ?_
  refine p_newa (n := 19) 3 1 3 d_Vans_init_6 rfl rfl rfl (fun _ => rfl) rfl (by decide) (Nat.le_of_ble_eq_true rfl) rfl rfl (Nat.le_of_ble_eq_true rfl) (Nat.le_of_ble_eq_true rfl) ?_
  refine p_putR (c := 18) (r := 19) d_Vans_init_8 ff_Vans_9 (fun _ => ⟨rfl, rfl⟩) rfl rfl rfl rfl (by decide) ?_
  refine r_aload_n 0 d_Vans_init_11 rfl rfl ?_
  refine r_iconst d_Vans_init_12 ?_
  refine p_newa (n := 20) 3 2 6 d_Vans_init_13 rfl rfl rfl (fun _ => rfl) rfl (by decide) (Nat.le_of_ble_eq_true rfl) rfl rfl (Nat.le_of_ble_eq_true rfl) (Nat.le_of_ble_eq_true rfl) ?_
  refine p_putR (c := 18) (r := 20) d_Vans_init_15 ff_Vans_15 (fun _ => ⟨rfl, rfl⟩) rfl rfl rfl rfl (by decide) ?_
  refine r_aload_n 0 d_Vans_init_18 rfl rfl ?_
  refine r_iconst d_Vans_init_19 ?_
  refine p_newa (n := 21) 3 3 9 d_Vans_init_20 rfl rfl rfl (fun _ => rfl) rfl (by decide) (Nat.le_of_ble_eq_true rfl) rfl rfl (Nat.le_of_ble_eq_true rfl) (Nat.le_of_ble_eq_true rfl) ?_
  refine p_putR (c := 18) (r := 21) d_Vans_init_22 ff_Vans_18 (fun _ => ⟨rfl, rfl⟩) rfl rfl rfl rfl (by decide) ?_
  refine r_aload_n 0 d_Vans_init_25 rfl rfl ?_
  refine r_iconst d_Vans_init_26 ?_
  refine p_newa (n := 22) 3 4 12 d_Vans_init_27 rfl rfl rfl (fun _ => rfl) rfl (by decide) (Nat.le_of_ble_eq_true rfl) rfl rfl (Nat.le_of_ble_eq_true rfl) (Nat.le_of_ble_eq_true rfl) ?_
  refine p_putR (c := 18) (r := 22) d_Vans_init_29 ff_Vans_21 (fun _ => ⟨rfl, rfl⟩) rfl rfl rfl rfl (by decide) ?_
  refine p_vret d_Vans_init_32 rfl ⟨rfl, ?_⟩
  refine pg_fin (c := 18) (ci := 6) rfl (by decide) (hD 18 (Nat.le_refl _)) (fun k hk => by (repeat rw [clr_ne hk]); rw [set9_ne hk]) (fun i hi => ?_)
  have hi : i < 5 := hi
  rcases (show i = 0 ∨ i = 1 ∨ i = 2 ∨ i = 3 ∨ i = 4 by omega) with rfl | rfl | rfl | rfl | rfl <;> first | (refine Or.inr ⟨?_, ?_⟩ <;> decide) | (refine Or.inl ?_; simp [clr, set9]; done)
set_option maxRecDepth 4000 in
theorem cn_Trip : CNc M_Trip_init 2 24 5816 2 27 := by
  intro D hD
  refine cn_of [vR ((2 : Nat) : Int)] fy_Trip_init.1 rfl (Nat.le_of_ble_eq_true rfl) ?_
  refine r_aload_n 0 d_Trip_init_0 rfl rfl ?_
  refine p_obj d_Trip_init_1 lk_Trip_3 (Nat.le_of_ble_eq_true rfl) ?_
  refine r_aload_n 0 d_Trip_init_4 rfl rfl ?_
  refine p_new (n := 3) 1 6 d_Trip_init_5 nw_Trip_9 rfl rfl (by decide) rfl rfl (Nat.le_of_ble_eq_true rfl) (Nat.le_of_ble_eq_true rfl) ?_
  refine r_dup d_Trip_init_8 rfl ?_
  refine p_cn (c := 3) (e := 9) 6 5646 d_Trip_init_9 (Or.inr ⟨_, lk_Trip_11⟩) ic_Town_init cn_Town (fun k hk => by (repeat rw [clr_ne (by omega)]); (repeat rw [set9_ne (by omega)]); exact hD k (by omega)) rfl ⟨(Nat.le_of_ble_eq_true rfl), (Nat.le_of_ble_eq_true rfl)⟩ rfl rfl (Nat.le_of_ble_eq_true rfl) (Nat.le_of_ble_eq_true rfl) (Nat.le_of_ble_eq_true rfl) ?_
  refine p_putR (c := 2) (r := 3) d_Trip_init_12 ff_Trip_12 (fun _ => ⟨rfl, rfl⟩) rfl rfl rfl rfl (by decide) ?_
  refine r_aload_n 0 d_Trip_init_15 rfl rfl ?_
  refine p_new (n := 9) 7 5655 d_Trip_init_16 nw_Trip_18 rfl rfl (by decide) rfl rfl (Nat.le_of_ble_eq_true rfl) (Nat.le_of_ble_eq_true rfl) ?_
  refine r_dup d_Trip_init_19 rfl ?_
  refine p_cn (c := 9) (e := 18) 15 5751 d_Trip_init_20 (Or.inr ⟨_, lk_Trip_20⟩) ic_Stops_init cn_Stops (fun k hk => by (repeat rw [clr_ne (by omega)]); (repeat rw [set9_ne (by omega)]); exact hD k (by omega)) rfl ⟨(Nat.le_of_ble_eq_true rfl), (Nat.le_of_ble_eq_true rfl)⟩ rfl rfl (Nat.le_of_ble_eq_true rfl) (Nat.le_of_ble_eq_true rfl) (Nat.le_of_ble_eq_true rfl) ?_
  refine p_putR (c := 2) (r := 9) d_Trip_init_23 ff_Trip_21 (fun _ => ⟨rfl, rfl⟩) rfl rfl rfl rfl (by decide) ?_
  refine r_aload_n 0 d_Trip_init_26 rfl rfl ?_
  refine p_new (n := 18) 16 5756 d_Trip_init_27 nw_Trip_25 rfl rfl (by decide) rfl rfl (Nat.le_of_ble_eq_true rfl) (Nat.le_of_ble_eq_true rfl) ?_
  refine r_dup d_Trip_init_30 rfl ?_
  refine p_cn (c := 18) (e := 23) 20 5768 d_Trip_init_31 (Or.inr ⟨_, lk_Trip_27⟩) ic_Vans_init cn_Vans (fun k hk => by (repeat rw [clr_ne (by omega)]); (repeat rw [set9_ne (by omega)]); exact hD k (by omega)) rfl ⟨(Nat.le_of_ble_eq_true rfl), (Nat.le_of_ble_eq_true rfl)⟩ rfl rfl (Nat.le_of_ble_eq_true rfl) (Nat.le_of_ble_eq_true rfl) (Nat.le_of_ble_eq_true rfl) ?_
  refine p_putR (c := 2) (r := 18) d_Trip_init_34 ff_Trip_28 (fun _ => ⟨rfl, rfl⟩) rfl rfl rfl rfl (by decide) ?_
  refine r_aload_n 0 d_Trip_init_37 rfl rfl ?_
  refine r_bipush d_Trip_init_38 (by decide) ?_
  refine p_newa (n := 23) 12 21 5780 d_Trip_init_40 rfl rfl rfl (fun _ => rfl) rfl (by decide) (Nat.le_of_ble_eq_true rfl) rfl rfl (Nat.le_of_ble_eq_true rfl) (Nat.le_of_ble_eq_true rfl) ?_
  refine p_putR (c := 2) (r := 23) d_Trip_init_42 ff_Trip_32 (fun _ => ⟨rfl, rfl⟩) rfl rfl rfl rfl (by decide) ?_
  refine r_aload_n 0 d_Trip_init_45 rfl rfl ?_
  refine r_bipush d_Trip_init_46 (by decide) ?_
  refine p_newa (n := 24) 12 22 5792 d_Trip_init_48 rfl rfl rfl (fun _ => rfl) rfl (by decide) (Nat.le_of_ble_eq_true rfl) rfl rfl (Nat.le_of_ble_eq_true rfl) (Nat.le_of_ble_eq_true rfl) ?_
  refine p_putR (c := 2) (r := 24) d_Trip_init_50 ff_Trip_36 (fun _ => ⟨rfl, rfl⟩) rfl rfl rfl rfl (by decide) ?_
  refine r_aload_n 0 d_Trip_init_53 rfl rfl ?_
  refine r_bipush d_Trip_init_54 (by decide) ?_
  refine p_newa (n := 25) 12 23 5804 d_Trip_init_56 rfl rfl rfl (fun _ => rfl) rfl (by decide) (Nat.le_of_ble_eq_true rfl) rfl rfl (Nat.le_of_ble_eq_true rfl) (Nat.le_of_ble_eq_true rfl) ?_
  refine p_putR (c := 2) (r := 25) d_Trip_init_58 ff_Trip_39 (fun _ => ⟨rfl, rfl⟩) rfl rfl rfl rfl (by decide) ?_
  refine r_aload_n 0 d_Trip_init_61 rfl rfl ?_
  refine r_bipush d_Trip_init_62 (by decide) ?_
  refine p_newa (n := 26) 12 24 5816 d_Trip_init_64 rfl rfl rfl (fun _ => rfl) rfl (by decide) (Nat.le_of_ble_eq_true rfl) rfl rfl (Nat.le_of_ble_eq_true rfl) (Nat.le_of_ble_eq_true rfl) ?_
  refine p_putR (c := 2) (r := 26) d_Trip_init_66 ff_Trip_42 (fun _ => ⟨rfl, rfl⟩) rfl rfl rfl rfl (by decide) ?_
  refine p_vret d_Trip_init_69 rfl ⟨rfl, ?_⟩
  refine pg_fin (c := 2) (ci := 5) rfl (by decide) (hD 2 (Nat.le_refl _)) (fun k hk => by (repeat rw [clr_ne hk]); rw [set9_ne hk]) (fun i hi => ?_)
  have hi : i < 12 := hi
  rcases (show i = 0 ∨ i = 1 ∨ i = 2 ∨ i = 3 ∨ i = 4 ∨ i = 5 ∨ i = 6 ∨ i = 7 ∨ i = 8 ∨ i = 9 ∨ i = 10 ∨ i = 11 by omega) with rfl | rfl | rfl | rfl | rfl | rfl | rfl | rfl | rfl | rfl | rfl | rfl <;> first | (refine Or.inr ⟨?_, ?_⟩ <;> decide) | (refine Or.inl ?_; simp [clr, set9]; done)
set_option maxRecDepth 4000 in
theorem cn_Planner : CNc M_Planner_init 3 37 5916 1 39 := by
  intro D hD
  refine cn_of [vR ((1 : Nat) : Int)] fy_Planner_init.1 rfl (Nat.le_of_ble_eq_true rfl) ?_
  refine r_aload_n 0 d_Planner_init_0 rfl rfl ?_
  refine p_obj d_Planner_init_1 lk_Planner_3 (Nat.le_of_ble_eq_true rfl) ?_
  refine r_aload_n 0 d_Planner_init_4 rfl rfl ?_
  refine p_new (n := 2) 1 12 d_Planner_init_5 nw_Planner_9 rfl rfl (by decide) rfl rfl (Nat.le_of_ble_eq_true rfl) (Nat.le_of_ble_eq_true rfl) ?_
  refine r_dup d_Planner_init_8 rfl ?_
  refine p_cn (c := 2) (e := 27) 25 5828 d_Planner_init_9 (Or.inr ⟨_, lk_Planner_11⟩) ic_Trip_init cn_Trip (fun k hk => by (repeat rw [clr_ne (by omega)]); (repeat rw [set9_ne (by omega)]); exact hD k (by omega)) rfl ⟨(Nat.le_of_ble_eq_true rfl), (Nat.le_of_ble_eq_true rfl)⟩ rfl rfl (Nat.le_of_ble_eq_true rfl) (Nat.le_of_ble_eq_true rfl) (Nat.le_of_ble_eq_true rfl) ?_
  refine p_putR (c := 1) (r := 2) d_Planner_init_12 ff_Planner_12 (fun _ => ⟨rfl, rfl⟩) rfl rfl rfl rfl (by decide) ?_
  refine r_aload_n 0 d_Planner_init_15 rfl rfl ?_
  refine r_aload_n 0 d_Planner_init_16 rfl rfl ?_
  refine p_getR 2 d_Planner_init_17 fk_Planner_12 rfl rfl rfl (by decide) (by simp [clr, set9, clr]) ?_
  refine p_getR 9 d_Planner_init_20 fk_Planner_18 rfl rfl rfl (by decide) (by simp [clr, set9, hD 2 (by decide)]) ?_
  refine p_putR (c := 1) (r := 9) d_Planner_init_23 ff_Planner_22 (fun _ => ⟨rfl, rfl⟩) rfl rfl rfl rfl (by decide) ?_
  refine r_aload_n 0 d_Planner_init_26 rfl rfl ?_
  refine r_aload_n 0 d_Planner_init_27 rfl rfl ?_
  refine p_getR 2 d_Planner_init_28 fk_Planner_12 rfl rfl rfl (by decide) (by simp [clr, set9, clr]) ?_
  refine p_getR 18 d_Planner_init_31 fk_Planner_23 rfl rfl rfl (by decide) (by simp [clr, set9, hD 2 (by decide)]) ?_
  refine p_putR (c := 1) (r := 18) d_Planner_init_34 ff_Planner_27 (fun _ => ⟨rfl, rfl⟩) rfl rfl rfl rfl (by decide) ?_
  refine r_aload_n 0 d_Planner_init_37 rfl rfl ?_
  refine p_new (n := 27) 26 5830 d_Planner_init_38 nw_Planner_28 rfl rfl (by decide) rfl rfl (Nat.le_of_ble_eq_true rfl) (Nat.le_of_ble_eq_true rfl) ?_
  refine r_dup d_Planner_init_41 rfl ?_
  refine p_cn (c := 27) (e := 33) 31 5872 d_Planner_init_42 (Or.inr ⟨_, lk_Planner_30⟩) ic_Plan_init (cn_Plan (p := 27) pl27) (fun k hk => by (repeat rw [clr_ne (by omega)]); (repeat rw [set9_ne (by omega)]); exact hD k (by omega)) rfl ⟨(Nat.le_of_ble_eq_true rfl), (Nat.le_of_ble_eq_true rfl)⟩ rfl rfl (Nat.le_of_ble_eq_true rfl) (Nat.le_of_ble_eq_true rfl) (Nat.le_of_ble_eq_true rfl) ?_
  refine p_putR (c := 1) (r := 27) d_Planner_init_45 ff_Planner_31 (fun _ => ⟨rfl, rfl⟩) rfl rfl rfl rfl (by decide) ?_
  refine r_aload_n 0 d_Planner_init_48 rfl rfl ?_
  refine p_new (n := 33) 32 5874 d_Planner_init_49 nw_Planner_28 rfl rfl (by decide) rfl rfl (Nat.le_of_ble_eq_true rfl) (Nat.le_of_ble_eq_true rfl) ?_
  refine r_dup d_Planner_init_52 rfl ?_
  refine p_cn (c := 33) (e := 39) 37 5916 d_Planner_init_53 (Or.inr ⟨_, lk_Planner_30⟩) ic_Plan_init (cn_Plan (p := 33) pl33) (fun k hk => by (repeat rw [clr_ne (by omega)]); (repeat rw [set9_ne (by omega)]); exact hD k (by omega)) rfl ⟨(Nat.le_of_ble_eq_true rfl), (Nat.le_of_ble_eq_true rfl)⟩ rfl rfl (Nat.le_of_ble_eq_true rfl) (Nat.le_of_ble_eq_true rfl) (Nat.le_of_ble_eq_true rfl) ?_
  refine p_putR (c := 1) (r := 33) d_Planner_init_56 ff_Planner_35 (fun _ => ⟨rfl, rfl⟩) rfl rfl rfl rfl (by decide) ?_
  refine p_vret d_Planner_init_59 rfl ⟨rfl, ?_⟩
  refine pg_fin (c := 1) (ci := 2) rfl (by decide) (hD 1 (Nat.le_refl _)) (fun k hk => by (repeat rw [clr_ne hk]); rw [set9_ne hk]) (fun i hi => ?_)
  have hi : i < 13 := hi
  rcases (show i = 0 ∨ i = 1 ∨ i = 2 ∨ i = 3 ∨ i = 4 ∨ i = 5 ∨ i = 6 ∨ i = 7 ∨ i = 8 ∨ i = 9 ∨ i = 10 ∨ i = 11 ∨ i = 12 by omega) with rfl | rfl | rfl | rfl | rfl | rfl | rfl | rfl | rfl | rfl | rfl | rfl | rfl <;> first | (refine Or.inr ⟨?_, ?_⟩ <;> decide) | (refine Or.inl ?_; simp [clr, set9]; done)
theorem r_weak {M : mi} {Rx : rx} {kz : Nat × Nat} {pc : Nat} {ls st : List av} {u v : hpd} (h : ∀ X H, u X H → v X H) (kk : Run M Rx kz pc ls st v) : Run M Rx kz pc ls st u := fun X p l e s m args below meth c H locs A hC hE hS hW hL => kk X p l e s m args below meth c H locs A hC hE hS (h X H hW) hL
/-- Past's array of plans, i of them made -/
def rowP (i : Nat) : Nat → Bool := fun j => decide (i ≤ j) && decide (j < 20)
theorem rowP_s {E : Dn} {i : Nat} : clr (set9 E 46 (rowP i)) 46 i = set9 E 46 (rowP (i + 1)) := by
  funext k
  by_cases e : k = 46
  · subst e
    funext j
    rw [clr_eq, set9_eq, set9_eq]
    unfold rowP
    by_cases q : j = i
    · rw [if_pos q, q, decide_eq_false (show ¬ i + 1 ≤ i by omega)]; rfl
    · rw [if_neg q]
      have : decide (i ≤ j) = decide (i + 1 ≤ j) := decide_eq_decide.mpr (by omega)
      rw [this]
  · rw [clr_ne e, set9_ne e, set9_ne e]
theorem rowP_20 : rowP 20 = fun _ => false := by
  funext j
  unfold rowP
  by_cases q : j < 20
  · rw [decide_eq_false (show ¬ 20 ≤ j by omega)]; rfl
  · rw [decide_eq_false q, Bool.and_false]
theorem clr_set9 {E : Dn} {c d i : Nat} {g : Nat → Bool} (h : c ≠ d) : clr (set9 E d g) c i = set9 (clr E c i) d g := by
  funext k
  by_cases e : k = c
  · subst e
    rw [set9_ne h]
    funext j
    rw [clr_eq, clr_eq, set9_ne h]
  · rw [clr_ne e]
    by_cases e2 : k = d
    · rw [e2, set9_eq, set9_eq]
    · rw [set9_ne e2, set9_ne e2, clr_ne e]
theorem pw_weak {E : Dn} {n : Nat} {X : cx} {H : Heap} (h : pg (set9 E 46 (fun _ => true)) n X H) : pg (set9 E 46 (rowP 0)) n X H := by
  intro k q hq
  obtain ⟨hk, rfl⟩ := pw_of hq
  have h1 := h k _ (pw_at hk)
  by_cases e : k = 46
  · subst e
    have e1 : ∀ g : Nat → Bool, pent X (set9 E 46 g) 46 = .inl (X.2.1.2.2.1, 20, .inr (.inr (.inr (.inr (fun j => if g j = true then none else some (X.2.2.1 + (lay ((46 : Nat) : Int) j).toNat)))))) := fun g => by
      unfold pent
      rw [show KD ((46 : Nat) : Int) = 11 from rfl, if_neg (by decide), if_neg (by decide), if_pos rfl, set9_eq]
      rfl
    rw [e1] at h1 ⊢
    have h2 := (at_ref (N := 20)).mp h1
    refine (at_ref (N := 20)).mpr ?_
    rw [h2]
    refine congrArg some (cell_cg (fun j hj => ?_))
    have : rowP 0 j = true := by unfold rowP; rw [decide_eq_true (Nat.zero_le j), decide_eq_true hj]; rfl
    rw [this]
  · rw [pent_cg (D := set9 E 46 (fun _ => true)) (by rw [set9_ne e, set9_ne e])]
    exact h1
theorem cn_Past : CNc M_Past_init 2 121 900 45 167 := by
  intro D hD
  obtain ⟨E, hEq⟩ : ∃ E, E = clr (set9 D 45 (fun _ => true)) 45 0 := ⟨_, rfl⟩
  have hE : ∀ r k, 47 ≤ k → set9 E 46 r k = fun _ => false := fun r k hk => by
    rw [set9_ne (by omega), hEq, clr_ne (by omega), set9_ne (by omega)]
    exact hD k (by omega)
  have hE45 : ∀ r, set9 E 46 r 45 0 = false := fun r => by rw [set9_ne (by decide), hEq, clr_eq, if_pos rfl]
  have key : ∀ m i : Nat, i + m = 20 → Run M_Past_init (rxN 2 121 900 46 (fun v w' => v = none ∧ w' = pg D 167)) (1 + 6 * i, 20 + 44 * i) 15 [vR ((45 : Nat) : Int), vI (i : Int)] [] (pg (set9 E 46 (rowP i)) (47 + 6 * i)) := by
    intro m
    induction m with
    | zero =>
      intro i hi
      have hi : i = 20 := by omega
      subst hi
      refine r_iload_n 1 d_Past_init_15 rfl rfl ?_
      refine r_bipush d_Past_init_16 (by decide) ?_
      refine r_icmp_ge 40 d_Past_init_18 rfl (by decide) (by decide) (fun h18 => ?_) (fun h18 => absurd h18 (by decide))
      refine p_vret d_Past_init_40 rfl ⟨rfl, ?_⟩
      rw [rowP_20]
      refine pg_fin (c := 45) (ci := 0) rfl (by decide) (hD 45 (Nat.le_refl _)) (fun k hk => ?_) (fun i hi => ?_)
      · by_cases e : k = 46
        · rw [e, set9_eq]; exact (hD 46 (by decide)).symm
        · rw [set9_ne e, hEq, clr_ne hk, set9_ne hk]
      · have hi : i < 3 := hi
        rw [set9_ne (by decide), hEq]
        rcases (show i = 0 ∨ i = 1 ∨ i = 2 by omega) with rfl | rfl | rfl <;> first | (refine Or.inr ⟨?_, ?_⟩ <;> decide) | (refine Or.inl ?_; simp [clr, set9]; done)
    | succ m ih =>
      intro i hi
      have hpl : isPl ((47 + 6 * i : Nat) : Int) := by
        rw [show ((47 + 6 * i : Nat) : Int) = 47 + 6 * (i : Int) by omega]
        exact pl_pp (by omega) (by omega)
      have hly : lay ((46 : Nat) : Int) (i : Int) = ((47 + 6 * i : Nat) : Int) := by
        rw [show ((47 + 6 * i : Nat) : Int) = 47 + 6 * (i : Int) by omega]
        exact lay_pp (by omega) (by omega)
      have h := ih (i + 1) (by omega)
      rw [show ((i + 1 : Nat) : Int) = (i : Int) + 1 by omega, show 1 + 6 * (i + 1) = 1 + 6 * i + 1 + 5 by omega, show 20 + 44 * (i + 1) = 20 + 44 * i + 2 + 42 by omega, show 47 + 6 * (i + 1) = 47 + 6 * i + 6 by omega, ← rowP_s] at h
      refine r_iload_n 1 d_Past_init_15 rfl rfl ?_
      refine r_bipush d_Past_init_16 (by decide) ?_
      refine r_icmp_ge 40 d_Past_init_18 rfl (by omega) (by omega) (fun h18 => absurd h18 (by omega)) (fun h18 => ?_)
      refine r_aload_n 0 d_Past_init_21 rfl rfl ?_
      refine p_getR 46 d_Past_init_22 fk_Past_11 rfl rfl rfl (by omega) (hE45 _) ?_
      refine r_iload_n 1 d_Past_init_25 rfl rfl ?_
      refine p_new (n := 47 + 6 * i) (1 + 6 * i + 1) (20 + 44 * i + 2) d_Past_init_26 nw_Past_9 (kd_pl hpl) (by omega) (by omega) rfl rfl (by omega) (by omega) ?_
      refine r_dup d_Past_init_29 rfl ?_
      refine p_cn (c := 47 + 6 * i) (e := 47 + 6 * i + 6) (1 + 6 * i + 1 + 5) (20 + 44 * i + 2 + 42) d_Past_init_30 (Or.inr ⟨_, lk_Past_17⟩) ic_Plan_init (cn_Plan hpl) (fun k hk => hE _ k (by omega)) (by omega) ⟨Nat.le_of_ble_eq_true rfl, Nat.le_of_ble_eq_true rfl⟩ rfl rfl (by omega) (by omega) (Nat.le_of_ble_eq_true rfl) ?_
      refine p_aast (c := 46) (r := 47 + 6 * i) (i := i) d_Past_init_33 rfl rfl (by omega) hly (kd_pl hpl) (by omega) (by omega) ?_
      refine r_iinc 1 d_Past_init_34 rfl (by decide) rfl ?_
      refine r_goto 15 d_Past_init_37 rfl ?_
      exact h
  refine cn_of [vR ((45 : Nat) : Int), vU] fy_Past_init.1 rfl (Nat.le_of_ble_eq_true rfl) ?_
  refine r_aload_n 0 d_Past_init_0 rfl rfl ?_
  refine p_obj d_Past_init_1 lk_Past_3 (Nat.le_of_ble_eq_true rfl) ?_
  refine r_aload_n 0 d_Past_init_4 rfl rfl ?_
  refine r_bipush d_Past_init_5 (by decide) ?_
  refine p_anew (n := 46) 1 20 d_Past_init_7 kl_Past_9 rfl rfl rfl (by decide) rfl rfl (Nat.le_of_ble_eq_true rfl) (Nat.le_of_ble_eq_true rfl) ?_
  refine r_weak (fun X H h => pw_weak h) ?_
  refine p_putR (c := 45) (r := 46) d_Past_init_10 ff_Past_11 (fun _ => ⟨rfl, rfl⟩) rfl rfl rfl rfl (by decide) ?_
  refine r_iconst d_Past_init_13 ?_
  refine r_istore_n 1 d_Past_init_14 rfl (by decide) rfl ?_
  rw [clr_set9 (by decide), ← hEq]
  exact key 20 0 rfl
set_option maxRecDepth 4000 in
theorem cn_Van : CNc M_Van_init 4 168 6897 0 169 := by
  intro D hD
  refine cn_of [vR ((0 : Nat) : Int)] fy_Van_init.1 rfl (Nat.le_of_ble_eq_true rfl) ?_
  refine r_aload_n 0 d_Van_init_0 rfl rfl ?_
  refine p_obj d_Van_init_1 lk_Van_3 (Nat.le_of_ble_eq_true rfl) ?_
  refine r_aload_n 0 d_Van_init_4 rfl rfl ?_
  refine p_new (n := 1) 1 13 d_Van_init_5 nw_Van_9 rfl rfl (by decide) rfl rfl (Nat.le_of_ble_eq_true rfl) (Nat.le_of_ble_eq_true rfl) ?_
  refine r_dup d_Van_init_8 rfl ?_
  refine p_cn (c := 1) (e := 39) 38 5929 d_Van_init_9 (Or.inr ⟨_, lk_Van_11⟩) ic_Planner_init cn_Planner (fun k hk => by (repeat rw [clr_ne (by omega)]); (repeat rw [set9_ne (by omega)]); exact hD k (by omega)) rfl ⟨(Nat.le_of_ble_eq_true rfl), (Nat.le_of_ble_eq_true rfl)⟩ rfl rfl (Nat.le_of_ble_eq_true rfl) (Nat.le_of_ble_eq_true rfl) (Nat.le_of_ble_eq_true rfl) ?_
  refine p_putR (c := 0) (r := 1) d_Van_init_12 ff_Van_12 (fun _ => ⟨rfl, rfl⟩) rfl rfl rfl rfl (by decide) ?_
  refine r_aload_n 0 d_Van_init_15 rfl rfl ?_
  refine r_aload_n 0 d_Van_init_16 rfl rfl ?_
  refine p_getR 1 d_Van_init_17 fk_Van_12 rfl rfl rfl (by decide) (by simp [clr, set9, clr]) ?_
  refine p_getR 27 d_Van_init_20 fk_Van_16 rfl rfl rfl (by decide) (by simp [clr, set9, hD 1 (by decide)]) ?_
  refine p_putR (c := 0) (r := 27) d_Van_init_23 ff_Van_20 (fun _ => ⟨rfl, rfl⟩) rfl rfl rfl rfl (by decide) ?_
  refine r_aload_n 0 d_Van_init_26 rfl rfl ?_
  refine r_aload_n 0 d_Van_init_27 rfl rfl ?_
  refine p_getR 1 d_Van_init_28 fk_Van_12 rfl rfl rfl (by decide) (by simp [clr, set9, clr]) ?_
  refine p_getR 2 d_Van_init_31 fk_Van_21 rfl rfl rfl (by decide) (by simp [clr, set9, hD 1 (by decide)]) ?_
  refine p_putR (c := 0) (r := 2) d_Van_init_34 ff_Van_25 (fun _ => ⟨rfl, rfl⟩) rfl rfl rfl rfl (by decide) ?_
  refine r_aload_n 0 d_Van_init_37 rfl rfl ?_
  refine r_aload_n 0 d_Van_init_38 rfl rfl ?_
  refine p_getR 2 d_Van_init_39 fk_Van_25 rfl rfl rfl (by decide) (by simp [clr, set9, clr]) ?_
  refine p_getR 3 d_Van_init_42 fk_Van_26 rfl rfl rfl (by decide) (by simp [clr, set9, hD 2 (by decide)]) ?_
  refine p_putR (c := 0) (r := 3) d_Van_init_45 ff_Van_32 (fun _ => ⟨rfl, rfl⟩) rfl rfl rfl rfl (by decide) ?_
  refine r_aload_n 0 d_Van_init_48 rfl rfl ?_
  refine r_aload_n 0 d_Van_init_49 rfl rfl ?_
  refine p_getR 2 d_Van_init_50 fk_Van_25 rfl rfl rfl (by decide) (by simp [clr, set9, clr]) ?_
  refine p_getR 9 d_Van_init_53 fk_Van_33 rfl rfl rfl (by decide) (by simp [clr, set9, hD 2 (by decide)]) ?_
  refine p_putR (c := 0) (r := 9) d_Van_init_56 ff_Van_37 (fun _ => ⟨rfl, rfl⟩) rfl rfl rfl rfl (by decide) ?_
  refine r_aload_n 0 d_Van_init_59 rfl rfl ?_
  refine r_aload_n 0 d_Van_init_60 rfl rfl ?_
  refine p_getR 2 d_Van_init_61 fk_Van_25 rfl rfl rfl (by decide) (by simp [clr, set9, clr]) ?_
  refine p_getR 18 d_Van_init_64 fk_Van_38 rfl rfl rfl (by decide) (by simp [clr, set9, hD 2 (by decide)]) ?_
  refine p_putR (c := 0) (r := 18) d_Van_init_67 ff_Van_42 (fun _ => ⟨rfl, rfl⟩) rfl rfl rfl rfl (by decide) ?_
  refine r_aload_n 0 d_Van_init_70 rfl rfl ?_
  refine p_new (n := 39) 39 5931 d_Van_init_71 nw_Van_43 rfl rfl (by decide) rfl rfl (Nat.le_of_ble_eq_true rfl) (Nat.le_of_ble_eq_true rfl) ?_
  refine r_dup d_Van_init_74 rfl ?_
  refine p_cn (c := 39) (e := 45) 44 5973 d_Van_init_75 (Or.inr ⟨_, lk_Van_45⟩) ic_Plan_init (cn_Plan (p := 39) pl39) (fun k hk => by (repeat rw [clr_ne (by omega)]); (repeat rw [set9_ne (by omega)]); exact hD k (by omega)) rfl ⟨(Nat.le_of_ble_eq_true rfl), (Nat.le_of_ble_eq_true rfl)⟩ rfl rfl (Nat.le_of_ble_eq_true rfl) (Nat.le_of_ble_eq_true rfl) (Nat.le_of_ble_eq_true rfl) ?_
  refine p_putR (c := 0) (r := 39) d_Van_init_78 ff_Van_46 (fun _ => ⟨rfl, rfl⟩) rfl rfl rfl rfl (by decide) ?_
  refine r_aload_n 0 d_Van_init_81 rfl rfl ?_
  refine p_new (n := 45) 45 5976 d_Van_init_82 nw_Van_49 rfl rfl (by decide) rfl rfl (Nat.le_of_ble_eq_true rfl) (Nat.le_of_ble_eq_true rfl) ?_
  refine r_dup d_Van_init_85 rfl ?_
  refine p_cn (c := 45) (e := 167) 166 6876 d_Van_init_86 (Or.inl lk_Van_51) ic_Past_init cn_Past (fun k hk => by (repeat rw [clr_ne (by omega)]); (repeat rw [set9_ne (by omega)]); exact hD k (by omega)) rfl ⟨(Nat.le_of_ble_eq_true rfl), (Nat.le_of_ble_eq_true rfl)⟩ rfl rfl (Nat.le_of_ble_eq_true rfl) (Nat.le_of_ble_eq_true rfl) (Nat.le_of_ble_eq_true rfl) ?_
  refine p_putR (c := 0) (r := 45) d_Van_init_89 ff_Van_52 (fun _ => ⟨rfl, rfl⟩) rfl rfl rfl rfl (by decide) ?_
  refine r_aload_n 0 d_Van_init_92 rfl rfl ?_
  refine r_bipush d_Van_init_93 (by decide) ?_
  refine p_newa (n := 167) 12 167 6888 d_Van_init_95 rfl rfl rfl (fun _ => rfl) rfl (by decide) (Nat.le_of_ble_eq_true rfl) rfl rfl (Nat.le_of_ble_eq_true rfl) (Nat.le_of_ble_eq_true rfl) ?_
  refine p_putR (c := 0) (r := 167) d_Van_init_97 ff_Van_56 (fun _ => ⟨rfl, rfl⟩) rfl rfl rfl rfl (by decide) ?_
  refine r_aload_n 0 d_Van_init_100 rfl rfl ?_
  refine r_iconst d_Van_init_101 ?_
  refine p_putI (c := 0) d_Van_init_102 fk_Van_60 rfl rfl rfl (by decide) ?_
  refine r_aload_n 0 d_Van_init_105 rfl rfl ?_
  refine r_iconst d_Van_init_106 ?_
  refine p_putI (c := 0) d_Van_init_107 fk_Van_64 rfl rfl rfl (by decide) ?_
  refine r_aload_n 0 d_Van_init_110 rfl rfl ?_
  refine r_bipush d_Van_init_111 (by decide) ?_
  refine p_newa (n := 168) 9 168 6897 d_Van_init_113 rfl rfl rfl (fun _ => rfl) rfl (by decide) (Nat.le_of_ble_eq_true rfl) rfl rfl (Nat.le_of_ble_eq_true rfl) (Nat.le_of_ble_eq_true rfl) ?_
  refine p_putR (c := 0) (r := 168) d_Van_init_115 ff_Van_67 (fun _ => ⟨rfl, rfl⟩) rfl rfl rfl rfl (by decide) ?_
  refine p_vret d_Van_init_118 rfl ⟨rfl, ?_⟩
  refine pg_fin (c := 0) (ci := 7) rfl (by decide) (hD 0 (Nat.le_refl _)) (fun k hk => by (repeat rw [clr_ne hk]); rw [set9_ne hk]) (fun i hi => ?_)
  have hi : i < 12 := hi
  rcases (show i = 0 ∨ i = 1 ∨ i = 2 ∨ i = 3 ∨ i = 4 ∨ i = 5 ∨ i = 6 ∨ i = 7 ∨ i = 8 ∨ i = 9 ∨ i = 10 ∨ i = 11 by omega) with rfl | rfl | rfl | rfl | rfl | rfl | rfl | rfl | rfl | rfl | rfl | rfl <;> first | (refine Or.inr ⟨?_, ?_⟩ <;> decide) | (refine Or.inl ?_; simp [clr, set9]; done)
set_option maxRecDepth 4000 in
theorem cn_Mod : CNc M_Mod_init 1 28 1622 169 198 := by
  intro D hD
  refine cn_of [vR ((169 : Nat) : Int)] fy_Mod_init.1 rfl (Nat.le_of_ble_eq_true rfl) ?_
  refine r_aload_n 0 d_Mod_init_0 rfl rfl ?_
  refine p_obj d_Mod_init_1 lk_Mod_1 (Nat.le_of_ble_eq_true rfl) ?_
  refine r_aload_n 0 d_Mod_init_4 rfl rfl ?_
  refine r_sipush d_Mod_init_5 (by decide) ?_
  refine p_newa (n := 170) 512 1 512 d_Mod_init_8 rfl rfl rfl (fun _ => rfl) rfl (by decide) (Nat.le_of_ble_eq_true rfl) rfl rfl (Nat.le_of_ble_eq_true rfl) (Nat.le_of_ble_eq_true rfl) ?_
  refine p_putR (c := 169) (r := 170) d_Mod_init_10 ff_Mod_7 (fun _ => ⟨rfl, rfl⟩) rfl rfl rfl rfl (by decide) ?_
  refine r_aload_n 0 d_Mod_init_13 rfl rfl ?_
  refine r_bipush d_Mod_init_14 (by decide) ?_
  refine p_newa (n := 171) 12 2 524 d_Mod_init_16 rfl rfl rfl (fun _ => rfl) rfl (by decide) (Nat.le_of_ble_eq_true rfl) rfl rfl (Nat.le_of_ble_eq_true rfl) (Nat.le_of_ble_eq_true rfl) ?_
  refine p_putR (c := 169) (r := 171) d_Mod_init_18 ff_Mod_13 (fun _ => ⟨rfl, rfl⟩) rfl rfl rfl rfl (by decide) ?_
  refine r_aload_n 0 d_Mod_init_21 rfl rfl ?_
  refine r_bipush d_Mod_init_22 (by decide) ?_
  refine p_newa (n := 172) 12 3 536 d_Mod_init_24 rfl rfl rfl (fun _ => rfl) rfl (by decide) (Nat.le_of_ble_eq_true rfl) rfl rfl (Nat.le_of_ble_eq_true rfl) (Nat.le_of_ble_eq_true rfl) ?_
  refine p_putR (c := 169) (r := 172) d_Mod_init_26 ff_Mod_16 (fun _ => ⟨rfl, rfl⟩) rfl rfl rfl rfl (by decide) ?_
  refine r_aload_n 0 d_Mod_init_29 rfl rfl ?_
  refine r_bipush d_Mod_init_30 (by decide) ?_
  refine p_newa (n := 173) 12 4 548 d_Mod_init_32 rfl rfl rfl (fun _ => rfl) rfl (by decide) (Nat.le_of_ble_eq_true rfl) rfl rfl (Nat.le_of_ble_eq_true rfl) (Nat.le_of_ble_eq_true rfl) ?_
  refine p_putR (c := 169) (r := 173) d_Mod_init_34 ff_Mod_19 (fun _ => ⟨rfl, rfl⟩) rfl rfl rfl rfl (by decide) ?_
  refine r_aload_n 0 d_Mod_init_37 rfl rfl ?_
  refine r_bipush d_Mod_init_38 (by decide) ?_
  refine p_newa (n := 174) 12 5 560 d_Mod_init_40 rfl rfl rfl (fun _ => rfl) rfl (by decide) (Nat.le_of_ble_eq_true rfl) rfl rfl (Nat.le_of_ble_eq_true rfl) (Nat.le_of_ble_eq_true rfl) ?_
  refine p_putR (c := 169) (r := 174) d_Mod_init_42 ff_Mod_22 (fun _ => ⟨rfl, rfl⟩) rfl rfl rfl rfl (by decide) ?_
  refine r_aload_n 0 d_Mod_init_45 rfl rfl ?_
  refine r_bipush d_Mod_init_46 (by decide) ?_
  refine p_newa (n := 175) 12 6 572 d_Mod_init_48 rfl rfl rfl (fun _ => rfl) rfl (by decide) (Nat.le_of_ble_eq_true rfl) rfl rfl (Nat.le_of_ble_eq_true rfl) (Nat.le_of_ble_eq_true rfl) ?_
  refine p_putR (c := 169) (r := 175) d_Mod_init_50 ff_Mod_25 (fun _ => ⟨rfl, rfl⟩) rfl rfl rfl rfl (by decide) ?_
  refine r_aload_n 0 d_Mod_init_53 rfl rfl ?_
  refine r_bipush d_Mod_init_54 (by decide) ?_
  refine p_newa (n := 176) 12 7 584 d_Mod_init_56 rfl rfl rfl (fun _ => rfl) rfl (by decide) (Nat.le_of_ble_eq_true rfl) rfl rfl (Nat.le_of_ble_eq_true rfl) (Nat.le_of_ble_eq_true rfl) ?_
  refine p_putR (c := 169) (r := 176) d_Mod_init_58 ff_Mod_28 (fun _ => ⟨rfl, rfl⟩) rfl rfl rfl rfl (by decide) ?_
  refine r_aload_n 0 d_Mod_init_61 rfl rfl ?_
  refine r_bipush d_Mod_init_62 (by decide) ?_
  refine p_newa (n := 177) 12 8 596 d_Mod_init_64 rfl rfl rfl (fun _ => rfl) rfl (by decide) (Nat.le_of_ble_eq_true rfl) rfl rfl (Nat.le_of_ble_eq_true rfl) (Nat.le_of_ble_eq_true rfl) ?_
  refine p_putR (c := 169) (r := 177) d_Mod_init_66 ff_Mod_31 (fun _ => ⟨rfl, rfl⟩) rfl rfl rfl rfl (by decide) ?_
  refine r_aload_n 0 d_Mod_init_69 rfl rfl ?_
  refine r_bipush d_Mod_init_70 (by decide) ?_
  refine p_newa (n := 178) 12 9 608 d_Mod_init_72 rfl rfl rfl (fun _ => rfl) rfl (by decide) (Nat.le_of_ble_eq_true rfl) rfl rfl (Nat.le_of_ble_eq_true rfl) (Nat.le_of_ble_eq_true rfl) ?_
  refine p_putR (c := 169) (r := 178) d_Mod_init_74 ff_Mod_34 (fun _ => ⟨rfl, rfl⟩) rfl rfl rfl rfl (by decide) ?_
  refine r_aload_n 0 d_Mod_init_77 rfl rfl ?_
  refine r_iconst d_Mod_init_78 ?_
  refine p_newa (n := 179) 3 10 611 d_Mod_init_79 rfl rfl rfl (fun _ => rfl) rfl (by decide) (Nat.le_of_ble_eq_true rfl) rfl rfl (Nat.le_of_ble_eq_true rfl) (Nat.le_of_ble_eq_true rfl) ?_
  refine p_putR (c := 169) (r := 179) d_Mod_init_81 ff_Mod_37 (fun _ => ⟨rfl, rfl⟩) rfl rfl rfl rfl (by decide) ?_
  refine r_aload_n 0 d_Mod_init_84 rfl rfl ?_
  refine r_iconst d_Mod_init_85 ?_
  refine p_newa (n := 180) 3 11 614 d_Mod_init_86 rfl rfl rfl (fun _ => rfl) rfl (by decide) (Nat.le_of_ble_eq_true rfl) rfl rfl (Nat.le_of_ble_eq_true rfl) (Nat.le_of_ble_eq_true rfl) ?_
  refine p_putR (c := 169) (r := 180) d_Mod_init_88 ff_Mod_40 (fun _ => ⟨rfl, rfl⟩) rfl rfl rfl rfl (by decide) ?_
  refine r_aload_n 0 d_Mod_init_91 rfl rfl ?_
  refine r_iconst d_Mod_init_92 ?_
  refine p_newa (n := 181) 3 12 617 d_Mod_init_93 rfl rfl rfl (fun _ => rfl) rfl (by decide) (Nat.le_of_ble_eq_true rfl) rfl rfl (Nat.le_of_ble_eq_true rfl) (Nat.le_of_ble_eq_true rfl) ?_
  refine p_putR (c := 169) (r := 181) d_Mod_init_95 ff_Mod_43 (fun _ => ⟨rfl, rfl⟩) rfl rfl rfl rfl (by decide) ?_
  refine r_aload_n 0 d_Mod_init_98 rfl rfl ?_
  refine r_iconst d_Mod_init_99 ?_
  refine p_newa (n := 182) 3 13 620 d_Mod_init_100 rfl rfl rfl (fun _ => rfl) rfl (by decide) (Nat.le_of_ble_eq_true rfl) rfl rfl (Nat.le_of_ble_eq_true rfl) (Nat.le_of_ble_eq_true rfl) ?_
  refine p_putR (c := 169) (r := 182) d_Mod_init_102 ff_Mod_46 (fun _ => ⟨rfl, rfl⟩) rfl rfl rfl rfl (by decide) ?_
  refine r_aload_n 0 d_Mod_init_105 rfl rfl ?_
  refine r_bipush d_Mod_init_106 (by decide) ?_
  refine p_newa (n := 183) 36 14 656 d_Mod_init_108 rfl rfl rfl (fun _ => rfl) rfl (by decide) (Nat.le_of_ble_eq_true rfl) rfl rfl (Nat.le_of_ble_eq_true rfl) (Nat.le_of_ble_eq_true rfl) ?_
  refine p_putR (c := 169) (r := 183) d_Mod_init_110 ff_Mod_49 (fun _ => ⟨rfl, rfl⟩) rfl rfl rfl rfl (by decide) ?_
  refine r_aload_n 0 d_Mod_init_113 rfl rfl ?_
  refine r_iconst d_Mod_init_114 ?_
  refine p_newa (n := 184) 3 15 659 d_Mod_init_115 rfl rfl rfl (fun _ => rfl) rfl (by decide) (Nat.le_of_ble_eq_true rfl) rfl rfl (Nat.le_of_ble_eq_true rfl) (Nat.le_of_ble_eq_true rfl) ?_
  refine p_putR (c := 169) (r := 184) d_Mod_init_117 ff_Mod_52 (fun _ => ⟨rfl, rfl⟩) rfl rfl rfl rfl (by decide) ?_
  refine r_aload_n 0 d_Mod_init_120 rfl rfl ?_
  refine r_sipush d_Mod_init_121 (by decide) ?_
  refine p_newa (n := 185) 780 16 1439 d_Mod_init_124 rfl rfl rfl (fun _ => rfl) rfl (by decide) (Nat.le_of_ble_eq_true rfl) rfl rfl (Nat.le_of_ble_eq_true rfl) (Nat.le_of_ble_eq_true rfl) ?_
  refine p_putR (c := 169) (r := 185) d_Mod_init_126 ff_Mod_55 (fun _ => ⟨rfl, rfl⟩) rfl rfl rfl rfl (by decide) ?_
  refine r_aload_n 0 d_Mod_init_129 rfl rfl ?_
  refine r_bipush d_Mod_init_130 (by decide) ?_
  refine p_newa (n := 186) 39 17 1478 d_Mod_init_132 rfl rfl rfl (fun _ => rfl) rfl (by decide) (Nat.le_of_ble_eq_true rfl) rfl rfl (Nat.le_of_ble_eq_true rfl) (Nat.le_of_ble_eq_true rfl) ?_
  refine p_putR (c := 169) (r := 186) d_Mod_init_134 ff_Mod_58 (fun _ => ⟨rfl, rfl⟩) rfl rfl rfl rfl (by decide) ?_
  refine r_aload_n 0 d_Mod_init_137 rfl rfl ?_
  refine r_bipush d_Mod_init_138 (by decide) ?_
  refine p_newa (n := 187) 39 18 1517 d_Mod_init_140 rfl rfl rfl (fun _ => rfl) rfl (by decide) (Nat.le_of_ble_eq_true rfl) rfl rfl (Nat.le_of_ble_eq_true rfl) (Nat.le_of_ble_eq_true rfl) ?_
  refine p_putR (c := 169) (r := 187) d_Mod_init_142 ff_Mod_61 (fun _ => ⟨rfl, rfl⟩) rfl rfl rfl rfl (by decide) ?_
  refine r_aload_n 0 d_Mod_init_145 rfl rfl ?_
  refine r_bipush d_Mod_init_146 (by decide) ?_
  refine p_newa (n := 188) 9 19 1526 d_Mod_init_148 rfl rfl rfl (fun _ => rfl) rfl (by decide) (Nat.le_of_ble_eq_true rfl) rfl rfl (Nat.le_of_ble_eq_true rfl) (Nat.le_of_ble_eq_true rfl) ?_
  refine p_putR (c := 169) (r := 188) d_Mod_init_150 ff_Mod_64 (fun _ => ⟨rfl, rfl⟩) rfl rfl rfl rfl (by decide) ?_
  refine r_aload_n 0 d_Mod_init_153 rfl rfl ?_
  refine r_bipush d_Mod_init_154 (by decide) ?_
  refine p_newa (n := 189) 8 20 1534 d_Mod_init_156 rfl rfl rfl (fun _ => rfl) rfl (by decide) (Nat.le_of_ble_eq_true rfl) rfl rfl (Nat.le_of_ble_eq_true rfl) (Nat.le_of_ble_eq_true rfl) ?_
  refine p_putR (c := 169) (r := 189) d_Mod_init_158 ff_Mod_67 (fun _ => ⟨rfl, rfl⟩) rfl rfl rfl rfl (by decide) ?_
  refine r_aload_n 0 d_Mod_init_161 rfl rfl ?_
  refine r_bipush d_Mod_init_162 (by decide) ?_
  refine p_newz (n := 190) 8 21 1542 d_Mod_init_164 rfl rfl rfl (fun _ => rfl) rfl (by decide) (Nat.le_of_ble_eq_true rfl) rfl rfl (Nat.le_of_ble_eq_true rfl) (Nat.le_of_ble_eq_true rfl) ?_
  refine p_putR (c := 169) (r := 190) d_Mod_init_166 ff_Mod_70 (fun _ => ⟨rfl, rfl⟩) rfl rfl rfl rfl (by decide) ?_
  refine r_aload_n 0 d_Mod_init_169 rfl rfl ?_
  refine r_bipush d_Mod_init_170 (by decide) ?_
  refine p_newa (n := 191) 8 22 1550 d_Mod_init_172 rfl rfl rfl (fun _ => rfl) rfl (by decide) (Nat.le_of_ble_eq_true rfl) rfl rfl (Nat.le_of_ble_eq_true rfl) (Nat.le_of_ble_eq_true rfl) ?_
  refine p_putR (c := 169) (r := 191) d_Mod_init_174 ff_Mod_74 (fun _ => ⟨rfl, rfl⟩) rfl rfl rfl rfl (by decide) ?_
  refine r_aload_n 0 d_Mod_init_177 rfl rfl ?_
  refine r_bipush d_Mod_init_178 (by decide) ?_
  refine p_newa (n := 192) 12 23 1562 d_Mod_init_180 rfl rfl rfl (fun _ => rfl) rfl (by decide) (Nat.le_of_ble_eq_true rfl) rfl rfl (Nat.le_of_ble_eq_true rfl) (Nat.le_of_ble_eq_true rfl) ?_
  refine p_putR (c := 169) (r := 192) d_Mod_init_182 ff_Mod_77 (fun _ => ⟨rfl, rfl⟩) rfl rfl rfl rfl (by decide) ?_
  refine r_aload_n 0 d_Mod_init_185 rfl rfl ?_
  refine r_bipush d_Mod_init_186 (by decide) ?_
  refine p_newa (n := 193) 12 24 1574 d_Mod_init_188 rfl rfl rfl (fun _ => rfl) rfl (by decide) (Nat.le_of_ble_eq_true rfl) rfl rfl (Nat.le_of_ble_eq_true rfl) (Nat.le_of_ble_eq_true rfl) ?_
  refine p_putR (c := 169) (r := 193) d_Mod_init_190 ff_Mod_80 (fun _ => ⟨rfl, rfl⟩) rfl rfl rfl rfl (by decide) ?_
  refine r_aload_n 0 d_Mod_init_193 rfl rfl ?_
  refine r_bipush d_Mod_init_194 (by decide) ?_
  refine p_newa (n := 194) 12 25 1586 d_Mod_init_196 rfl rfl rfl (fun _ => rfl) rfl (by decide) (Nat.le_of_ble_eq_true rfl) rfl rfl (Nat.le_of_ble_eq_true rfl) (Nat.le_of_ble_eq_true rfl) ?_
  refine p_putR (c := 169) (r := 194) d_Mod_init_198 ff_Mod_83 (fun _ => ⟨rfl, rfl⟩) rfl rfl rfl rfl (by decide) ?_
  refine r_aload_n 0 d_Mod_init_201 rfl rfl ?_
  refine r_bipush d_Mod_init_202 (by decide) ?_
  refine p_newa (n := 195) 12 26 1598 d_Mod_init_204 rfl rfl rfl (fun _ => rfl) rfl (by decide) (Nat.le_of_ble_eq_true rfl) rfl rfl (Nat.le_of_ble_eq_true rfl) (Nat.le_of_ble_eq_true rfl) ?_
  refine p_putR (c := 169) (r := 195) d_Mod_init_206 ff_Mod_86 (fun _ => ⟨rfl, rfl⟩) rfl rfl rfl rfl (by decide) ?_
  refine r_aload_n 0 d_Mod_init_209 rfl rfl ?_
  refine r_iconst d_Mod_init_210 ?_
  refine p_putI (c := 169) d_Mod_init_211 fk_Mod_89 rfl rfl rfl (by decide) ?_
  refine r_aload_n 0 d_Mod_init_214 rfl rfl ?_
  refine r_bipush d_Mod_init_215 (by decide) ?_
  refine p_newa (n := 196) 12 27 1610 d_Mod_init_217 rfl rfl rfl (fun _ => rfl) rfl (by decide) (Nat.le_of_ble_eq_true rfl) rfl rfl (Nat.le_of_ble_eq_true rfl) (Nat.le_of_ble_eq_true rfl) ?_
  refine p_putR (c := 169) (r := 196) d_Mod_init_219 ff_Mod_93 (fun _ => ⟨rfl, rfl⟩) rfl rfl rfl rfl (by decide) ?_
  refine r_aload_n 0 d_Mod_init_222 rfl rfl ?_
  refine r_bipush d_Mod_init_223 (by decide) ?_
  refine p_newa (n := 197) 12 28 1622 d_Mod_init_225 rfl rfl rfl (fun _ => rfl) rfl (by decide) (Nat.le_of_ble_eq_true rfl) rfl rfl (Nat.le_of_ble_eq_true rfl) (Nat.le_of_ble_eq_true rfl) ?_
  refine p_putR (c := 169) (r := 197) d_Mod_init_227 ff_Mod_96 (fun _ => ⟨rfl, rfl⟩) rfl rfl rfl rfl (by decide) ?_
  refine r_aload_n 0 d_Mod_init_230 rfl rfl ?_
  refine r_iconst d_Mod_init_231 ?_
  refine p_putI (c := 169) d_Mod_init_232 fk_Mod_99 rfl rfl rfl (by decide) ?_
  refine p_vret d_Mod_init_235 rfl ⟨rfl, ?_⟩
  refine pg_fin (c := 169) (ci := 8) rfl (by decide) (hD 169 (Nat.le_refl _)) (fun k hk => by (repeat rw [clr_ne hk]); rw [set9_ne hk]) (fun i hi => ?_)
  have hi : i < 46 := hi
  rcases (show i = 0 ∨ i = 1 ∨ i = 2 ∨ i = 3 ∨ i = 4 ∨ i = 5 ∨ i = 6 ∨ i = 7 ∨ i = 8 ∨ i = 9 ∨ i = 10 ∨ i = 11 ∨ i = 12 ∨ i = 13 ∨ i = 14 ∨ i = 15 ∨ i = 16 ∨ i = 17 ∨ i = 18 ∨ i = 19 ∨ i = 20 ∨ i = 21 ∨ i = 22 ∨ i = 23 ∨ i = 24 ∨ i = 25 ∨ i = 26 ∨ i = 27 ∨ i = 28 ∨ i = 29 ∨ i = 30 ∨ i = 31 ∨ i = 32 ∨ i = 33 ∨ i = 34 ∨ i = 35 ∨ i = 36 ∨ i = 37 ∨ i = 38 ∨ i = 39 ∨ i = 40 ∨ i = 41 ∨ i = 42 ∨ i = 43 ∨ i = 44 ∨ i = 45 by omega) with rfl | rfl | rfl | rfl | rfl | rfl | rfl | rfl | rfl | rfl | rfl | rfl | rfl | rfl | rfl | rfl | rfl | rfl | rfl | rfl | rfl | rfl | rfl | rfl | rfl | rfl | rfl | rfl | rfl | rfl | rfl | rfl | rfl | rfl | rfl | rfl | rfl | rfl | rfl | rfl | rfl | rfl | rfl | rfl | rfl | rfl <;> first | (refine Or.inr ⟨?_, ?_⟩ <;> decide) | (refine Or.inl ?_; simp [clr, set9]; done)
