theorem zz_9z_end : True := trivial
