theorem ywX2_init : YW yX2_init cX2_init 1 none 0 := ⟨qw13, qw1, by decide, by decide, by decide +kernel⟩
theorem ywX0_init : YW yX0_init cX0_init 1 none 0 := ⟨qw21, qw2, by decide, by decide, by decide +kernel⟩
theorem ywJ7_fill_53178 : YW yJ7_fill_53178 cJ7_fill_53178 4 none 2 := ⟨qw25, qw3, by decide, by decide, by decide +kernel⟩
theorem ywX1_init : YW yX1_init cX1_init 2 none 0 := ⟨qw102, qw4, by decide, by decide, by decide +kernel⟩
theorem ywX2_addLinkset : YW yX2_addLinkset cX2_addLinkset 2 (some .int) 1 := ⟨qw140, qw1, by decide, by decide, by decide +kernel⟩
theorem ywX2_invalid : YW yX2_invalid cX2_invalid 1 (some .int) 0 := ⟨qw144, qw1, by decide, by decide, by decide +kernel⟩
theorem ywX2_full : YW yX2_full cX2_full 1 (some .int) 0 := ⟨qw148, qw1, by decide, by decide, by decide +kernel⟩
theorem ywX1_save : YW yX1_save cX1_save 2 none 1 := ⟨qw152, qw4, by decide, by decide, by decide +kernel⟩
theorem ywX0_copyFrom : YW yX0_copyFrom cX0_copyFrom 2 none 1 := ⟨qw156, qw2, by decide, by decide, by decide +kernel⟩
theorem ywX0_copyRow : YW yX0_copyRow cX0_copyRow 2 none 2 := ⟨qw159, qw2, by decide, by decide, by decide +kernel⟩
theorem ywJ9_min_7cf53 : YW yJ9_min_7cf53 cJ9_min_7cf53 2 (some .int) 2 := ⟨qw162, qw6, by decide, by decide, by decide +kernel⟩
theorem ywX0_appendLinkset : YW yX0_appendLinkset cX0_appendLinkset 3 (some .int) 1 := ⟨qw170, qw2, by decide, by decide, by decide +kernel⟩
theorem ywX2_failLink : YW yX2_failLink cX2_failLink 3 (some .int) 2 := ⟨qw174, qw1, by decide, by decide, by decide +kernel⟩
theorem ywX0_hasLink : YW yX0_hasLink cX0_hasLink 3 (some .boolean) 2 := ⟨qw178, qw2, by decide, by decide, by decide +kernel⟩
theorem ywX0_hasLinkset : YW yX0_hasLinkset cX0_hasLinkset 2 (some .boolean) 1 := ⟨qw182, qw2, by decide, by decide, by decide +kernel⟩
theorem ywX0_linkWorks : YW yX0_linkWorks cX0_linkWorks 3 (some .boolean) 2 := ⟨qw186, qw2, by decide, by decide, by decide +kernel⟩
theorem ywX2_rejected : YW yX2_rejected cX2_rejected 1 (some .int) 0 := ⟨qw190, qw1, by decide, by decide, by decide +kernel⟩
theorem ywX0_changeOver : YW yX0_changeOver cX0_changeOver 6 (some .int) 2 := ⟨qw194, qw2, by decide, by decide, by decide +kernel⟩
theorem ywX2_linkPlace : YW yX2_linkPlace cX2_linkPlace 2 (some .int) 2 := ⟨qw197, qw1, by decide, by decide, by decide +kernel⟩
theorem ywX0_dispatch : YW yX0_dispatch cX0_dispatch 4 none 1 := ⟨qw201, qw2, by decide, by decide, by decide +kernel⟩
theorem ywX2_streamOf : YW yX2_streamOf cX2_streamOf 1 (some .int) 1 := ⟨qw204, qw1, by decide, by decide, by decide +kernel⟩
theorem ywJ9_floorMod_7cf53 : YW yJ9_floorMod_7cf53 cJ9_floorMod_7cf53 3 (some .int) 2 := ⟨qw207, qw6, by decide, by decide, by decide +kernel⟩
theorem ywX0_linkOfStream : YW yX0_linkOfStream cX0_linkOfStream 2 (some .int) 1 := ⟨qw211, qw2, by decide, by decide, by decide +kernel⟩
theorem ywX0_routesTo : YW yX0_routesTo cX0_routesTo 3 (some .int) 1 := ⟨qw215, qw2, by decide, by decide, by decide +kernel⟩
theorem ywX0_preferredRoutes : YW yX0_preferredRoutes cX0_preferredRoutes 7 (some .int) 2 := ⟨qw219, qw2, by decide, by decide, by decide +kernel⟩
theorem ywX2_routePlace : YW yX2_routePlace cX2_routePlace 2 (some .int) 2 := ⟨qw222, qw1, by decide, by decide, by decide +kernel⟩
theorem ywX0_linkOver : YW yX0_linkOver cX0_linkOver 6 (some .int) 2 := ⟨qw226, qw2, by decide, by decide, by decide +kernel⟩
theorem ywJ6_bitCount_0f7a4 : YW yJ6_bitCount_0f7a4 cJ6_bitCount_0f7a4 1 (some .int) 1 := ⟨qw229, qw8, by decide, by decide, by decide +kernel⟩
theorem ywX2_setBit : YW yX2_setBit cX2_setBit 4 (some .int) 2 := ⟨qw235, qw1, by decide, by decide, by decide +kernel⟩
theorem ywX2_restoreLink : YW yX2_restoreLink cX2_restoreLink 3 (some .int) 2 := ⟨qw239, qw1, by decide, by decide, by decide +kernel⟩
theorem ywX0_listLinks : YW yX0_listLinks cX0_listLinks 3 none 1 := ⟨qw243, qw2, by decide, by decide, by decide +kernel⟩
theorem ywX0_activate : YW yX0_activate cX0_activate 3 none 2 := ⟨qw247, qw2, by decide, by decide, by decide +kernel⟩
theorem ywX0_divertMoved : YW yX0_divertMoved cX0_divertMoved 4 (some .int) 1 := ⟨qw251, qw2, by decide, by decide, by decide +kernel⟩
theorem ywX2_acknowledge : YW yX2_acknowledge cX2_acknowledge 4 (some .int) 3 := ⟨qw255, qw1, by decide, by decide, by decide +kernel⟩
theorem ywX0_deliverOldest : YW yX0_deliverOldest cX0_deliverOldest 7 (some .int) 2 := ⟨qw260, qw2, by decide, by decide, by decide +kernel⟩
theorem ywX0_deliver : YW yX0_deliver cX0_deliver 4 none 1 := ⟨qw264, qw2, by decide, by decide, by decide +kernel⟩
theorem ywX2_numberOf : YW yX2_numberOf cX2_numberOf 1 (some .int) 1 := ⟨qw267, qw1, by decide, by decide, by decide +kernel⟩
theorem ywJ9_floorDiv_7cf53 : YW yJ9_floorDiv_7cf53 cJ9_floorDiv_7cf53 3 (some .int) 2 := ⟨qw270, qw6, by decide, by decide, by decide +kernel⟩
theorem ywX2_queueLength : YW yX2_queueLength cX2_queueLength 3 (some .int) 2 := ⟨qw274, qw1, by decide, by decide, by decide +kernel⟩
theorem ywX2_queued : YW yX2_queued cX2_queued 5 (some .int) 3 := ⟨qw278, qw1, by decide, by decide, by decide +kernel⟩
theorem ywX2_congestion : YW yX2_congestion cX2_congestion 3 (some .int) 2 := ⟨qw283, qw1, by decide, by decide, by decide +kernel⟩
theorem ywX0_congestionLevel : YW yX0_congestionLevel cX0_congestionLevel 3 (some .int) 1 := ⟨qw287, qw2, by decide, by decide, by decide +kernel⟩
theorem ywX2_isActive : YW yX2_isActive cX2_isActive 3 (some .int) 2 := ⟨qw291, qw1, by decide, by decide, by decide +kernel⟩
theorem ywX2_addRoute : YW yX2_addRoute cX2_addRoute 5 (some .int) 3 := ⟨qw295, qw1, by decide, by decide, by decide +kernel⟩
theorem ywX0_canHaveRoute : YW yX0_canHaveRoute cX0_canHaveRoute 3 (some .boolean) 2 := ⟨qw299, qw2, by decide, by decide, by decide +kernel⟩
theorem ywX2_isDestination : YW yX2_isDestination cX2_isDestination 1 (some .boolean) 1 := ⟨qw302, qw1, by decide, by decide, by decide +kernel⟩
theorem ywX2_removeRoute : YW yX2_removeRoute cX2_removeRoute 5 (some .int) 2 := ⟨qw307, qw1, by decide, by decide, by decide +kernel⟩
theorem ywX2_setRouteState : YW yX2_setRouteState cX2_setRouteState 6 (some .int) 3 := ⟨qw311, qw1, by decide, by decide, by decide +kernel⟩
theorem ywX2_routeState : YW yX2_routeState cX2_routeState 3 (some .int) 2 := ⟨qw315, qw1, by decide, by decide, by decide +kernel⟩
theorem ywX2_currentRoutes : YW yX2_currentRoutes cX2_currentRoutes 2 (some .int) 1 := ⟨qw319, qw1, by decide, by decide, by decide +kernel⟩
theorem ywX2_currentLink : YW yX2_currentLink cX2_currentLink 3 (some .int) 2 := ⟨qw325, qw1, by decide, by decide, by decide +kernel⟩
theorem ywX2_isStream : YW yX2_isStream cX2_isStream 2 (some .boolean) 2 := ⟨qw328, qw1, by decide, by decide, by decide +kernel⟩
theorem ywX2_send : YW yX2_send cX2_send 4 (some .int) 3 := ⟨qw333, qw1, by decide, by decide, by decide +kernel⟩
theorem ywX0_accept : YW yX0_accept cX0_accept 8 (some .int) 3 := ⟨qw337, qw2, by decide, by decide, by decide +kernel⟩
theorem ywX2_streamPlace : YW yX2_streamPlace cX2_streamPlace 2 (some .int) 2 := ⟨qw340, qw1, by decide, by decide, by decide +kernel⟩
theorem ywX2_messageOf : YW yX2_messageOf cX2_messageOf 2 (some .int) 2 := ⟨qw343, qw1, by decide, by decide, by decide +kernel⟩
theorem ywX0_holds : YW yX0_holds cX0_holds 2 (some .boolean) 1 := ⟨qw347, qw2, by decide, by decide, by decide +kernel⟩
theorem ywX0_hold : YW yX0_hold cX0_hold 2 none 1 := ⟨qw351, qw2, by decide, by decide, by decide +kernel⟩
theorem ywX2_setHoldTime : YW yX2_setHoldTime cX2_setHoldTime 3 (some .int) 1 := ⟨qw356, qw1, by decide, by decide, by decide +kernel⟩
theorem ywX2_tick : YW yX2_tick cX2_tick 1 (some .int) 0 := ⟨qw360, qw1, by decide, by decide, by decide +kernel⟩
theorem ywX0_releaseHeld : YW yX0_releaseHeld cX0_releaseHeld 5 (some .int) 0 := ⟨qw364, qw2, by decide, by decide, by decide +kernel⟩
theorem ywX2_time : YW yX2_time cX2_time 1 (some .int) 0 := ⟨qw368, qw1, by decide, by decide, by decide +kernel⟩
theorem ywX2_isHeld : YW yX2_isHeld cX2_isHeld 3 (some .int) 2 := ⟨qw372, qw1, by decide, by decide, by decide +kernel⟩
theorem ywX2_heldMessages : YW yX2_heldMessages cX2_heldMessages 1 (some .int) 0 := ⟨qw378, qw1, by decide, by decide, by decide +kernel⟩
theorem ywX2_delivered : YW yX2_delivered cX2_delivered 1 (some .int) 0 := ⟨qw382, qw1, by decide, by decide, by decide +kernel⟩
theorem ywX2_overtaken : YW yX2_overtaken cX2_overtaken 1 (some .int) 0 := ⟨qw386, qw1, by decide, by decide, by decide +kernel⟩
theorem ywX2_unreachable : YW yX2_unreachable cX2_unreachable 1 (some .int) 0 := ⟨qw390, qw1, by decide, by decide, by decide +kernel⟩
theorem ywX2_congested : YW yX2_congested cX2_congested 1 (some .int) 0 := ⟨qw394, qw1, by decide, by decide, by decide +kernel⟩
theorem ywX2_lost : YW yX2_lost cX2_lost 1 (some .int) 0 := ⟨qw398, qw1, by decide, by decide, by decide +kernel⟩
theorem ywX2_spread : YW yX2_spread cX2_spread 2 (some .int) 1 := ⟨qw402, qw1, by decide, by decide, by decide +kernel⟩
theorem ywX0_countLinksTo : YW yX0_countLinksTo cX0_countLinksTo 6 (some .int) 1 := ⟨qw406, qw2, by decide, by decide, by decide +kernel⟩
theorem ywX2_undo : YW yX2_undo cX2_undo 1 (some .int) 0 := ⟨qw410, qw1, by decide, by decide, by decide +kernel⟩
theorem ywX1_takeBackInto : YW yX1_takeBackInto cX1_takeBackInto 2 none 1 := ⟨qw414, qw4, by decide, by decide, by decide +kernel⟩
theorem ywX2_errorCount : YW yX2_errorCount cX2_errorCount 2 (some .int) 1 := ⟨qw418, qw1, by decide, by decide, by decide +kernel⟩
theorem ywX2_digest : YW yX2_digest cX2_digest 4 (some .long) 0 := ⟨qw422, qw1, by decide, by decide, by decide +kernel⟩
theorem ywX2_mix : YW yX2_mix cX2_mix 3 (some .long) 2 := ⟨qw426, qw1, by decide, by decide, by decide +kernel⟩
theorem ywX0_mixCounters : YW yX0_mixCounters cX0_mixCounters 5 (some .long) 1 := ⟨qw431, qw2, by decide, by decide, by decide +kernel⟩
theorem ywX0_mixLinksets : YW yX0_mixLinksets cX0_mixLinksets 7 (some .long) 1 := ⟨qw436, qw2, by decide, by decide, by decide +kernel⟩
theorem ywX0_mixQueue : YW yX0_mixQueue cX0_mixQueue 7 (some .long) 2 := ⟨qw441, qw2, by decide, by decide, by decide +kernel⟩
theorem ywX0_mixDestination : YW yX0_mixDestination cX0_mixDestination 8 (some .long) 2 := ⟨qw445, qw2, by decide, by decide, by decide +kernel⟩
theorem ywX0_mixHolding : YW yX0_mixHolding cX0_mixHolding 6 (some .long) 1 := ⟨qw449, qw2, by decide, by decide, by decide +kernel⟩
theorem ywX3_init : YW yX3_init cX3_init 2 none 0 := ⟨qw454, qw5, by decide, by decide, by decide +kernel⟩
theorem ywX3_undo : YW yX3_undo cX3_undo 2 (some .int) 0 := ⟨qw481, qw5, by decide, by decide, by decide +kernel⟩
theorem ywX3_fails : YW yX3_fails cX3_fails 2 (some .int) 1 := ⟨qw485, qw5, by decide, by decide, by decide +kernel⟩
theorem ywX3_addLinkset : YW yX3_addLinkset cX3_addLinkset 4 (some .int) 1 := ⟨qw489, qw5, by decide, by decide, by decide +kernel⟩
theorem ywX3_within : YW yX3_within cX3_within 3 (some .boolean) 3 := ⟨qw492, qw5, by decide, by decide, by decide +kernel⟩
theorem ywX3_saves : YW yX3_saves cX3_saves 2 none 0 := ⟨qw496, qw5, by decide, by decide, by decide +kernel⟩
theorem ywX3_failLink : YW yX3_failLink cX3_failLink 6 (some .int) 2 := ⟨qw500, qw5, by decide, by decide, by decide +kernel⟩
theorem ywX3_isLink : YW yX3_isLink cX3_isLink 3 (some .boolean) 2 := ⟨qw504, qw5, by decide, by decide, by decide +kernel⟩
theorem ywX3_isSet : YW yX3_isSet cX3_isSet 2 (some .boolean) 1 := ⟨qw508, qw5, by decide, by decide, by decide +kernel⟩
theorem ywX3_dispatches : YW yX3_dispatches cX3_dispatches 3 none 1 := ⟨qw512, qw5, by decide, by decide, by decide +kernel⟩
theorem ywX3_linkOf : YW yX3_linkOf cX3_linkOf 7 (some .int) 1 := ⟨qw516, qw5, by decide, by decide, by decide +kernel⟩
theorem ywX3_routesOf : YW yX3_routesOf cX3_routesOf 6 (some .int) 1 := ⟨qw520, qw5, by decide, by decide, by decide +kernel⟩
theorem ywX3_isUsable : YW yX3_isUsable cX3_isUsable 4 (some .boolean) 2 := ⟨qw524, qw5, by decide, by decide, by decide +kernel⟩
theorem ywX3_activeOf : YW yX3_activeOf cX3_activeOf 4 (some .int) 1 := ⟨qw528, qw5, by decide, by decide, by decide +kernel⟩
theorem ywX3_bits : YW yX3_bits cX3_bits 3 (some .int) 1 := ⟨qw531, qw5, by decide, by decide, by decide +kernel⟩
theorem ywX3_restoreLink : YW yX3_restoreLink cX3_restoreLink 3 (some .int) 2 := ⟨qw535, qw5, by decide, by decide, by decide +kernel⟩
theorem ywX3_laysBefore : YW yX3_laysBefore cX3_laysBefore 2 none 0 := ⟨qw539, qw5, by decide, by decide, by decide +kernel⟩
theorem ywX3_diverts : YW yX3_diverts cX3_diverts 4 (some .int) 0 := ⟨qw543, qw5, by decide, by decide, by decide +kernel⟩
theorem ywX3_acknowledge : YW yX3_acknowledge cX3_acknowledge 8 (some .int) 3 := ⟨qw547, qw5, by decide, by decide, by decide +kernel⟩
theorem ywX3_delivers : YW yX3_delivers cX3_delivers 3 none 1 := ⟨qw551, qw5, by decide, by decide, by decide +kernel⟩
theorem ywX3_queueLength : YW yX3_queueLength cX3_queueLength 3 (some .int) 2 := ⟨qw555, qw5, by decide, by decide, by decide +kernel⟩
theorem ywX3_queued : YW yX3_queued cX3_queued 5 (some .int) 3 := ⟨qw559, qw5, by decide, by decide, by decide +kernel⟩
theorem ywX3_congestion : YW yX3_congestion cX3_congestion 3 (some .int) 2 := ⟨qw563, qw5, by decide, by decide, by decide +kernel⟩
theorem ywX3_levelOf : YW yX3_levelOf cX3_levelOf 3 (some .int) 1 := ⟨qw567, qw5, by decide, by decide, by decide +kernel⟩
theorem ywX3_isActive : YW yX3_isActive cX3_isActive 3 (some .int) 2 := ⟨qw571, qw5, by decide, by decide, by decide +kernel⟩
theorem ywX3_addRoute : YW yX3_addRoute cX3_addRoute 5 (some .int) 3 := ⟨qw575, qw5, by decide, by decide, by decide +kernel⟩
theorem ywX3_isDestination : YW yX3_isDestination cX3_isDestination 1 (some .boolean) 1 := ⟨qw578, qw5, by decide, by decide, by decide +kernel⟩
theorem ywX3_removeRoute : YW yX3_removeRoute cX3_removeRoute 5 (some .int) 2 := ⟨qw582, qw5, by decide, by decide, by decide +kernel⟩
theorem ywX3_setRouteState : YW yX3_setRouteState cX3_setRouteState 6 (some .int) 3 := ⟨qw586, qw5, by decide, by decide, by decide +kernel⟩
theorem ywX3_routeState : YW yX3_routeState cX3_routeState 3 (some .int) 2 := ⟨qw590, qw5, by decide, by decide, by decide +kernel⟩
theorem ywX3_currentRoutes : YW yX3_currentRoutes cX3_currentRoutes 2 (some .int) 1 := ⟨qw594, qw5, by decide, by decide, by decide +kernel⟩
theorem ywX3_currentLink : YW yX3_currentLink cX3_currentLink 3 (some .int) 2 := ⟨qw598, qw5, by decide, by decide, by decide +kernel⟩
theorem ywX3_isStream : YW yX3_isStream cX3_isStream 2 (some .boolean) 2 := ⟨qw601, qw5, by decide, by decide, by decide +kernel⟩
theorem ywX3_send : YW yX3_send cX3_send 6 (some .int) 3 := ⟨qw605, qw5, by decide, by decide, by decide +kernel⟩
theorem ywX3_isCongested : YW yX3_isCongested cX3_isCongested 4 (some .boolean) 2 := ⟨qw609, qw5, by decide, by decide, by decide +kernel⟩
theorem ywX3_setHoldTime : YW yX3_setHoldTime cX3_setHoldTime 3 (some .int) 1 := ⟨qw613, qw5, by decide, by decide, by decide +kernel⟩
theorem ywX3_tick : YW yX3_tick cX3_tick 5 (some .int) 0 := ⟨qw617, qw5, by decide, by decide, by decide +kernel⟩
theorem ywX3_time : YW yX3_time cX3_time 1 (some .int) 0 := ⟨qw621, qw5, by decide, by decide, by decide +kernel⟩
theorem ywX3_isHeld : YW yX3_isHeld cX3_isHeld 3 (some .int) 2 := ⟨qw625, qw5, by decide, by decide, by decide +kernel⟩
theorem ywX3_heldMessages : YW yX3_heldMessages cX3_heldMessages 1 (some .int) 0 := ⟨qw629, qw5, by decide, by decide, by decide +kernel⟩
theorem ywX3_delivered : YW yX3_delivered cX3_delivered 1 (some .int) 0 := ⟨qw633, qw5, by decide, by decide, by decide +kernel⟩
theorem ywX3_overtaken : YW yX3_overtaken cX3_overtaken 1 (some .int) 0 := ⟨qw637, qw5, by decide, by decide, by decide +kernel⟩
theorem ywX3_unreachable : YW yX3_unreachable cX3_unreachable 1 (some .int) 0 := ⟨qw641, qw5, by decide, by decide, by decide +kernel⟩
theorem ywX3_congested : YW yX3_congested cX3_congested 1 (some .int) 0 := ⟨qw645, qw5, by decide, by decide, by decide +kernel⟩
theorem ywX3_lost : YW yX3_lost cX3_lost 1 (some .int) 0 := ⟨qw649, qw5, by decide, by decide, by decide +kernel⟩
theorem ywX3_spread : YW yX3_spread cX3_spread 6 (some .int) 1 := ⟨qw653, qw5, by decide, by decide, by decide +kernel⟩
theorem ywX3_errorCount : YW yX3_errorCount cX3_errorCount 2 (some .int) 1 := ⟨qw657, qw5, by decide, by decide, by decide +kernel⟩
theorem ywX3_digest : YW yX3_digest cX3_digest 3 (some .long) 0 := ⟨qw661, qw5, by decide, by decide, by decide +kernel⟩
theorem ywX3_mix : YW yX3_mix cX3_mix 2 none 1 := ⟨qw666, qw5, by decide, by decide, by decide +kernel⟩
theorem ywX3_mixLink : YW yX3_mixLink cX3_mixLink 3 none 1 := ⟨qw671, qw5, by decide, by decide, by decide +kernel⟩
theorem ywX3_mixDestination : YW yX3_mixDestination cX3_mixDestination 3 none 1 := ⟨qw675, qw5, by decide, by decide, by decide +kernel⟩
theorem nk0 {D : va_G} {cI cO : ClassId} {s : State} (hC : CT D cI cO s) : va_Nw (.methodLinkNest RX2 11 yX0_init RX2) s := hC.2.2 (RX2, 11, yX0_init, RX2) (List.mem_of_getElem? (i := 0) rfl)
theorem nk1 {D : va_G} {cI cO : ClassId} {s : State} (hC : CT D cI cO s) : va_Nw (.methodLinkNest RX2 18 yX1_init RX2) s := hC.2.2 (RX2, 18, yX1_init, RX2) (List.mem_of_getElem? (i := 1) rfl)
theorem nk2 {D : va_G} {cI cO : ClassId} {s : State} (hC : CT D cI cO s) : va_Nw (.methodLinkNest RX1 17 yX0_init RX2) s := hC.2.2 (RX1, 17, yX0_init, RX2) (List.mem_of_getElem? (i := 2) rfl)
theorem nk3 {D : va_G} {cI cO : ClassId} {s : State} (hC : CT D cI cO s) : va_Nw (.methodLinkNest RX2 38 yX1_save RX2) s := hC.2.2 (RX2, 38, yX1_save, RX2) (List.mem_of_getElem? (i := 3) rfl)
theorem nk4 {D : va_G} {cI cO : ClassId} {s : State} (hC : CT D cI cO s) : va_Nw (.methodLinkNest RX1 22 yX0_copyFrom RX2) s := hC.2.2 (RX1, 22, yX0_copyFrom, RX2) (List.mem_of_getElem? (i := 4) rfl)
theorem nk5 {D : va_G} {cI cO : ClassId} {s : State} (hC : CT D cI cO s) : va_Nw (.methodLinkNest RX2 42 yX0_appendLinkset RX2) s := hC.2.2 (RX2, 42, yX0_appendLinkset, RX2) (List.mem_of_getElem? (i := 5) rfl)
theorem nk6 {D : va_G} {cI cO : ClassId} {s : State} (hC : CT D cI cO s) : va_Nw (.methodLinkNest RX2 46 yX0_hasLink RX2) s := hC.2.2 (RX2, 46, yX0_hasLink, RX2) (List.mem_of_getElem? (i := 6) rfl)
theorem nk7 {D : va_G} {cI cO : ClassId} {s : State} (hC : CT D cI cO s) : va_Nw (.methodLinkNest RX2 50 yX0_linkWorks RX2) s := hC.2.2 (RX2, 50, yX0_linkWorks, RX2) (List.mem_of_getElem? (i := 7) rfl)
theorem nk8 {D : va_G} {cI cO : ClassId} {s : State} (hC : CT D cI cO s) : va_Nw (.methodLinkNest RX2 56 yX0_changeOver RX2) s := hC.2.2 (RX2, 56, yX0_changeOver, RX2) (List.mem_of_getElem? (i := 8) rfl)
theorem nk9 {D : va_G} {cI cO : ClassId} {s : State} (hC : CT D cI cO s) : va_Nw (.methodLinkNest RX0 99 yX2_linkPlace RX2) s := hC.2.2 (RX0, 99, yX2_linkPlace, RX2) (List.mem_of_getElem? (i := 9) rfl)
theorem nk10 {D : va_G} {cI cO : ClassId} {s : State} (hC : CT D cI cO s) : va_Nw (.methodLinkNest RX0 145 yX2_streamOf RX2) s := hC.2.2 (RX0, 145, yX2_streamOf, RX2) (List.mem_of_getElem? (i := 10) rfl)
theorem nk11 {D : va_G} {cI cO : ClassId} {s : State} (hC : CT D cI cO s) : va_Nw (.methodLinkNest RX0 109 yX2_routePlace RX2) s := hC.2.2 (RX0, 109, yX2_routePlace, RX2) (List.mem_of_getElem? (i := 11) rfl)
theorem nk12 {D : va_G} {cI cO : ClassId} {s : State} (hC : CT D cI cO s) : va_Nw (.methodLinkNest RX0 118 yX2_setBit RX2) s := hC.2.2 (RX0, 118, yX2_setBit, RX2) (List.mem_of_getElem? (i := 12) rfl)
theorem nk13 {D : va_G} {cI cO : ClassId} {s : State} (hC : CT D cI cO s) : va_Nw (.methodLinkNest RX2 60 yX0_listLinks RX2) s := hC.2.2 (RX2, 60, yX0_listLinks, RX2) (List.mem_of_getElem? (i := 13) rfl)
theorem nk14 {D : va_G} {cI cO : ClassId} {s : State} (hC : CT D cI cO s) : va_Nw (.methodLinkNest RX2 64 yX0_activate RX2) s := hC.2.2 (RX2, 64, yX0_activate, RX2) (List.mem_of_getElem? (i := 14) rfl)
theorem nk15 {D : va_G} {cI cO : ClassId} {s : State} (hC : CT D cI cO s) : va_Nw (.methodLinkNest RX2 68 yX0_divertMoved RX2) s := hC.2.2 (RX2, 68, yX0_divertMoved, RX2) (List.mem_of_getElem? (i := 15) rfl)
theorem nk16 {D : va_G} {cI cO : ClassId} {s : State} (hC : CT D cI cO s) : va_Nw (.methodLinkNest RX2 75 yX0_deliverOldest RX2) s := hC.2.2 (RX2, 75, yX0_deliverOldest, RX2) (List.mem_of_getElem? (i := 16) rfl)
theorem nk17 {D : va_G} {cI cO : ClassId} {s : State} (hC : CT D cI cO s) : va_Nw (.methodLinkNest RX0 151 yX2_numberOf RX2) s := hC.2.2 (RX0, 151, yX2_numberOf, RX2) (List.mem_of_getElem? (i := 17) rfl)
theorem nk18 {D : va_G} {cI cO : ClassId} {s : State} (hC : CT D cI cO s) : va_Nw (.methodLinkNest RX2 87 yX0_congestionLevel RX2) s := hC.2.2 (RX2, 87, yX0_congestionLevel, RX2) (List.mem_of_getElem? (i := 18) rfl)
theorem nk19 {D : va_G} {cI cO : ClassId} {s : State} (hC : CT D cI cO s) : va_Nw (.methodLinkNest RX2 90 yX0_canHaveRoute RX2) s := hC.2.2 (RX2, 90, yX0_canHaveRoute, RX2) (List.mem_of_getElem? (i := 19) rfl)
theorem nk20 {D : va_G} {cI cO : ClassId} {s : State} (hC : CT D cI cO s) : va_Nw (.methodLinkNest RX0 96 yX2_isDestination RX2) s := hC.2.2 (RX0, 96, yX2_isDestination, RX2) (List.mem_of_getElem? (i := 20) rfl)
theorem nk21 {D : va_G} {cI cO : ClassId} {s : State} (hC : CT D cI cO s) : va_Nw (.methodLinkNest RX2 106 yX0_routesTo RX2) s := hC.2.2 (RX2, 106, yX0_routesTo, RX2) (List.mem_of_getElem? (i := 21) rfl)
theorem nk22 {D : va_G} {cI cO : ClassId} {s : State} (hC : CT D cI cO s) : va_Nw (.methodLinkNest RX2 112 yX0_linkOver RX2) s := hC.2.2 (RX2, 112, yX0_linkOver, RX2) (List.mem_of_getElem? (i := 22) rfl)
theorem nk23 {D : va_G} {cI cO : ClassId} {s : State} (hC : CT D cI cO s) : va_Nw (.methodLinkNest RX2 115 yX0_accept RX2) s := hC.2.2 (RX2, 115, yX0_accept, RX2) (List.mem_of_getElem? (i := 23) rfl)
theorem nk24 {D : va_G} {cI cO : ClassId} {s : State} (hC : CT D cI cO s) : va_Nw (.methodLinkNest RX0 130 yX2_streamPlace RX2) s := hC.2.2 (RX0, 130, yX2_streamPlace, RX2) (List.mem_of_getElem? (i := 24) rfl)
theorem nk25 {D : va_G} {cI cO : ClassId} {s : State} (hC : CT D cI cO s) : va_Nw (.methodLinkNest RX0 133 yX2_messageOf RX2) s := hC.2.2 (RX0, 133, yX2_messageOf, RX2) (List.mem_of_getElem? (i := 25) rfl)
theorem nk26 {D : va_G} {cI cO : ClassId} {s : State} (hC : CT D cI cO s) : va_Nw (.methodLinkNest RX2 125 yX0_releaseHeld RX2) s := hC.2.2 (RX2, 125, yX0_releaseHeld, RX2) (List.mem_of_getElem? (i := 26) rfl)
theorem nk27 {D : va_G} {cI cO : ClassId} {s : State} (hC : CT D cI cO s) : va_Nw (.methodLinkNest RX2 131 yX0_holds RX2) s := hC.2.2 (RX2, 131, yX0_holds, RX2) (List.mem_of_getElem? (i := 27) rfl)
theorem nk28 {D : va_G} {cI cO : ClassId} {s : State} (hC : CT D cI cO s) : va_Nw (.methodLinkNest RX2 152 yX0_countLinksTo RX2) s := hC.2.2 (RX2, 152, yX0_countLinksTo, RX2) (List.mem_of_getElem? (i := 28) rfl)
theorem nk29 {D : va_G} {cI cO : ClassId} {s : State} (hC : CT D cI cO s) : va_Nw (.methodLinkNest RX2 158 yX1_takeBackInto RX2) s := hC.2.2 (RX2, 158, yX1_takeBackInto, RX2) (List.mem_of_getElem? (i := 29) rfl)
theorem nk30 {D : va_G} {cI cO : ClassId} {s : State} (hC : CT D cI cO s) : va_Nw (.methodLinkNest RX2 176 yX0_mixCounters RX2) s := hC.2.2 (RX2, 176, yX0_mixCounters, RX2) (List.mem_of_getElem? (i := 30) rfl)
theorem nk31 {D : va_G} {cI cO : ClassId} {s : State} (hC : CT D cI cO s) : va_Nw (.methodLinkNest RX0 154 yX2_mix RX2) s := hC.2.2 (RX0, 154, yX2_mix, RX2) (List.mem_of_getElem? (i := 31) rfl)
theorem nk32 {D : va_G} {cI cO : ClassId} {s : State} (hC : CT D cI cO s) : va_Nw (.methodLinkNest RX2 180 yX0_mixLinksets RX2) s := hC.2.2 (RX2, 180, yX0_mixLinksets, RX2) (List.mem_of_getElem? (i := 32) rfl)
theorem nk33 {D : va_G} {cI cO : ClassId} {s : State} (hC : CT D cI cO s) : va_Nw (.methodLinkNest RX2 183 yX0_mixDestination RX2) s := hC.2.2 (RX2, 183, yX0_mixDestination, RX2) (List.mem_of_getElem? (i := 33) rfl)
theorem nk34 {D : va_G} {cI cO : ClassId} {s : State} (hC : CT D cI cO s) : va_Nw (.methodLinkNest RX2 186 yX0_mixHolding RX2) s := hC.2.2 (RX2, 186, yX0_mixHolding, RX2) (List.mem_of_getElem? (i := 34) rfl)
theorem nf0 {D : va_G} {cI cO : ClassId} {s : State} (hC : CT D cI cO s) : va_Nw (.fieldLinkNest RX2 122 RX0 "time" "I" RX2) s := hC.2.1 (RX2, 122, RX0, "time", "I", RX2) (List.mem_of_getElem? (i := 0) rfl)
theorem nf1 {D : va_G} {cI cO : ClassId} {s : State} (hC : CT D cI cO s) : va_Nw (.fieldLinkNest RX2 119 RX0 "holdTime" "I" RX2) s := hC.2.1 (RX2, 119, RX0, "holdTime", "I", RX2) (List.mem_of_getElem? (i := 1) rfl)
theorem nf2 {D : va_G} {cI cO : ClassId} {s : State} (hC : CT D cI cO s) : va_Nw (.fieldLinkNest RX2 137 RX0 "delivered" "I" RX2) s := hC.2.1 (RX2, 137, RX0, "delivered", "I", RX2) (List.mem_of_getElem? (i := 2) rfl)
theorem nf3 {D : va_G} {cI cO : ClassId} {s : State} (hC : CT D cI cO s) : va_Nw (.fieldLinkNest RX2 140 RX0 "overtaken" "I" RX2) s := hC.2.1 (RX2, 140, RX0, "overtaken", "I", RX2) (List.mem_of_getElem? (i := 3) rfl)
theorem nf4 {D : va_G} {cI cO : ClassId} {s : State} (hC : CT D cI cO s) : va_Nw (.fieldLinkNest RX2 143 RX0 "unreachable" "I" RX2) s := hC.2.1 (RX2, 143, RX0, "unreachable", "I", RX2) (List.mem_of_getElem? (i := 4) rfl)
theorem nf5 {D : va_G} {cI cO : ClassId} {s : State} (hC : CT D cI cO s) : va_Nw (.fieldLinkNest RX2 146 RX0 "congested" "I" RX2) s := hC.2.1 (RX2, 146, RX0, "congested", "I", RX2) (List.mem_of_getElem? (i := 5) rfl)
theorem nf6 {D : va_G} {cI cO : ClassId} {s : State} (hC : CT D cI cO s) : va_Nw (.fieldLinkNest RX2 149 RX0 "lost" "I" RX2) s := hC.2.1 (RX2, 149, RX0, "lost", "I", RX2) (List.mem_of_getElem? (i := 6) rfl)
theorem nf7 {D : va_G} {cI cO : ClassId} {s : State} (hC : CT D cI cO s) : va_Nw (.fieldLinkNest RX2 31 RX0 "linksets" "I" RX2) s := hC.2.1 (RX2, 31, RX0, "linksets", "I", RX2) (List.mem_of_getElem? (i := 7) rfl)
theorem nf8 {D : va_G} {cI cO : ClassId} {s : State} (hC : CT D cI cO s) : va_Nw (.fieldLinkNest RX2 134 RX0 "heldCount" "I" RX2) s := hC.2.1 (RX2, 134, RX0, "heldCount", "I", RX2) (List.mem_of_getElem? (i := 8) rfl)
theorem nf9 {D : va_G} {cI cO : ClassId} {s : State} (hC : CT D cI cO s) : va_Nw (.fieldLinkNest RX2 78 RX0 "queueLengths" "[I" RX2) s := hC.2.1 (RX2, 78, RX0, "queueLengths", "[I", RX2) (List.mem_of_getElem? (i := 9) rfl)
theorem nf10 {D : va_G} {cI cO : ClassId} {s : State} (hC : CT D cI cO s) : va_Nw (.fieldLinkNest RX2 81 RX0 "queues" "[I" RX2) s := hC.2.1 (RX2, 81, RX0, "queues", "[I", RX2) (List.mem_of_getElem? (i := 10) rfl)
theorem nf11 {D : va_G} {cI cO : ClassId} {s : State} (hC : CT D cI cO s) : va_Nw (.fieldLinkNest RX2 96 RX0 "routeStates" "[I" RX2) s := hC.2.1 (RX2, 96, RX0, "routeStates", "[I", RX2) (List.mem_of_getElem? (i := 11) rfl)
theorem nf12 {D : va_G} {cI cO : ClassId} {s : State} (hC : CT D cI cO s) : va_Nw (.fieldLinkNest RX2 99 RX0 "priorities" "[I" RX2) s := hC.2.1 (RX2, 99, RX0, "priorities", "[I", RX2) (List.mem_of_getElem? (i := 12) rfl)
theorem nf13 {D : va_G} {cI cO : ClassId} {s : State} (hC : CT D cI cO s) : va_Nw (.fieldLinkNest RX2 155 RX1 "size" "I" RX2) s := hC.2.1 (RX2, 155, RX1, "size", "I", RX2) (List.mem_of_getElem? (i := 13) rfl)
