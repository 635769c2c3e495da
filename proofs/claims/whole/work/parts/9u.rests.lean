theorem zz_9u_rests : True := trivial
